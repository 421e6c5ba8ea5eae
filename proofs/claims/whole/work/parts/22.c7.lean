set_option maxRecDepth 20000 in
set_option maxHeartbeats 1000000 in
theorem c_addFull {l : Launch} {G : hb_G} {F : hb_F} {na : Nat} {e : Nat} (he : e < na) (hm : 200 ≤ G 25 3) (hG : hb_rg G) : hb_M l yX0_add cX0_add 2 (some .int) 4 0 0 [hb_r 25, hb_r (77 + e)] (hb_w G F na) (77 + na) (.inl (some (hb_i (-1)))) (hb_w G F na) (77 + na) := by
  refine hb_M_in rfl rfl (by decide) rfl (Nat.le_of_ble_eq_true rfl) ?_
  intro E z0 σ0
  refine aw_ald0 dX0_add_0 ?_
  refine aw_getf dX0_add_1 hbf_X0_29 rfl rfl ?_
  refine aw_sipush dX0_add_4 (by decide) ?_
  refine aw_icmp_ge (tg := 28) dX0_add_7 (by decide) (hG _ _) (by decide) (fun c7 => ?_) (fun c7 => absurd c7 (by omega))
  refine aw_iconst dX0_add_28 ?_
  exact aw_iret dX0_add_29 rfl (by rfl) rfl rfl (by decide) (by decide)
set_option maxRecDepth 20000 in
set_option maxHeartbeats 1000000 in
theorem c_addTwice {l : Launch} {G : hb_G} {F : hb_F} {na : Nat} {e : Nat} (he : e < na) (hm : 0 ≤ G 25 3 ∧ G 25 3 < 200) (hmv : G (77 + e) 0 = 0 ∨ G (77 + e) 0 = 1) (hH : hb_M l yX0_hasMoveAt cX0_hasMoveAt 3 (some .boolean) 1 0 0 [hb_r 25, hb_i (G (77 + e) 2)] (hb_w G F na) (77 + na) (.inl (some (hb_i (1)))) (hb_w G F na) (77 + na)) (hG : hb_rg G) : hb_M l yX0_add cX0_add 2 (some .int) 4 0 0 [hb_r 25, hb_r (77 + e)] (hb_w G F na) (77 + na) (.inl (some (hb_i (-1)))) (hb_w G F na) (77 + na) := by
  refine hb_M_in rfl rfl (by decide) rfl (Nat.le_of_ble_eq_true rfl) ?_
  intro E z0 σ0
  refine aw_ald0 dX0_add_0 ?_
  refine aw_getf dX0_add_1 hbf_X0_29 rfl rfl ?_
  refine aw_sipush dX0_add_4 (by decide) ?_
  refine aw_icmp_ge (tg := 28) dX0_add_7 (by decide) (hG _ _) (by decide) (fun c7 => absurd c7 (by omega)) (fun c7 => ?_)
  refine aw_ald1 dX0_add_10 ?_
  refine aw_V0v dX0_add_11 (c_isMove he hG) (hb_we he) rfl hbY_X1_isMove hbm_X0_37 hbi_X1_isMove hbe_X1_X1_isMove (Nat.le_of_ble_eq_true rfl) ⟨by decide, by decide⟩ (by decide) (by decide) ?_
  refine aw_ifb_eq (tg := 30) dX0_add_14 (by decide) (fun c14 => absurd c14 (by exact fun h8 => h8 hmv)) (fun c14 => ?_)
  refine aw_ald0 dX0_add_17 ?_
  refine aw_ald1 dX0_add_18 ?_
  refine aw_getf dX0_add_19 hbf_X0_41 (hb_we he) rfl ?_
  refine aw_V1v dX0_add_22 hH rfl rfl hbY_X0_hasMoveAt hbm_X0_44 hbi_X0_hasMoveAt hbe_X0_X0_hasMoveAt (Nat.le_of_ble_eq_true rfl) ⟨by decide, by decide⟩ (by decide) (by decide) ?_
  refine aw_if_eq (tg := 30) dX0_add_25 (by decide) (by decide) (fun c25 => absurd c25 (by decide)) (fun c25 => ?_)
  refine aw_iconst dX0_add_28 ?_
  exact aw_iret dX0_add_29 rfl (by rfl) rfl rfl (by decide) (by decide)
set_option maxRecDepth 20000 in
set_option maxHeartbeats 1000000 in
theorem c_addPlain {l : Launch} {G : hb_G} {F : hb_F} {na : Nat} {e : Nat} (he : e < na) {G2 : hb_G} {F1 : hb_F} (hm : 0 ≤ G 25 3 ∧ G 25 3 < 200) (hmv : ¬ (G (77 + e) 0 = 0 ∨ G (77 + e) 0 = 1)) (hI : hb_M l yX0_insert cX0_insert 3 none 3 0 0 [hb_r 25, hb_r (77 + e)] (hb_w (hb_u2 G (77 + e) 3 (G 25 3)) F na) (77 + na) (.inl none) (hb_w G2 F1 na) (77 + na)) (hG2 : hb_rg G2) (hmv2 : ¬ (G2 (77 + e) 0 = 0 ∨ G2 (77 + e) 0 = 1)) (hm2 : G2 25 3 = G 25 3) (hn3 : G2 (77 + e) 3 = G 25 3) (hG : hb_rg G) : hb_M l yX0_add cX0_add 2 (some .int) 4 0 0 [hb_r 25, hb_r (77 + e)] (hb_w G F na) (77 + na) (.inl (some (hb_i (G 25 3)))) (hb_w (hb_u2 G2 25 3 (G2 25 3 + 1)) (hb_v2 F1 26 (G2 25 3) (some (77 + e))) na) (77 + na) := by
  refine hb_M_in rfl rfl (by decide) rfl (Nat.le_of_ble_eq_true rfl) ?_
  intro E z0 σ0
  refine aw_ald0 dX0_add_0 ?_
  refine aw_getf dX0_add_1 hbf_X0_29 rfl rfl ?_
  refine aw_sipush dX0_add_4 (by decide) ?_
  refine aw_icmp_ge (tg := 28) dX0_add_7 (by decide) (hG _ _) (by decide) (fun c7 => absurd c7 (by omega)) (fun c7 => ?_)
  refine aw_ald1 dX0_add_10 ?_
  refine aw_V0v dX0_add_11 (c_isMove he hG) (hb_we he) rfl hbY_X1_isMove hbm_X0_37 hbi_X1_isMove hbe_X1_X1_isMove (Nat.le_of_ble_eq_true rfl) ⟨by decide, by decide⟩ (by decide) (by decide) ?_
  refine aw_ifb_eq (tg := 30) dX0_add_14 (by decide) (fun c14 => ?_) (fun c14 => absurd c14 (by exact fun h8 => hmv h8))
  refine aw_ald1 dX0_add_30 ?_
  refine aw_ald0 dX0_add_31 ?_
  refine aw_getf dX0_add_32 hbf_X0_29 rfl rfl ?_
  refine aw_putw dX0_add_35 hbf_X0_48 hbS_X1 (fun C T n h9 => by cases h9; exact ⟨rfl, by decide +kernel, fun h8 => by cases h8⟩) (hb_pe he) (hb_ce _ _ _) (by rw [hb_ce]; rfl) ?_
  refine aw_ald0 dX0_add_38 ?_
  refine aw_ald1 dX0_add_39 ?_
  refine aw_V1n dX0_add_40 hI rfl rfl hbY_X0_insert hbm_X0_51 hbi_X0_insert hbe_X0_X0_insert (Nat.le_of_ble_eq_true rfl) ⟨by decide, by decide⟩ (by decide) (by decide) ?_
  refine aw_ald1 dX0_add_43 ?_
  refine aw_V0v dX0_add_44 (c_isMove he hG2) (hb_we he) rfl hbY_X1_isMove hbm_X0_37 hbi_X1_isMove hbe_X1_X1_isMove (Nat.le_of_ble_eq_true rfl) ⟨by decide, by decide⟩ (by decide) (by decide) ?_
  refine aw_ifb_eq (tg := 64) dX0_add_47 (by decide) (fun c47 => ?_) (fun c47 => absurd c47 (by exact fun h8 => hmv2 h8))
  refine aw_ald0 dX0_add_64 ?_
  refine aw_getf dX0_add_65 hbf_X0_11 rfl rfl ?_
  refine aw_ald0 dX0_add_68 ?_
  refine aw_getf dX0_add_69 hbf_X0_29 rfl rfl ?_
  refine aw_ald1 dX0_add_72 ?_
  refine aw_eastw dX0_add_73 (fun _ => rfl) rfl (hb_we he) (by constructor <;> omega) (by decide) ?_
  refine aw_ald0 dX0_add_74 ?_
  refine aw_dup dX0_add_75 rfl ?_
  refine aw_getf dX0_add_76 hbf_X0_29 rfl rfl ?_
  refine aw_iconst dX0_add_79 ?_
  refine aw_iadd dX0_add_80 ?_
  refine aw_putw dX0_add_81 hbf_X0_29 hbS_X0 (fun C T n h9 => by cases h9; exact ⟨rfl, by decide +kernel, fun h8 => by cases h8⟩) rfl rfl rfl ?_
  refine aw_ald1 dX0_add_84 ?_
  refine aw_getf dX0_add_85 hbf_X0_48 (hb_we he) rfl ?_
  refine aw_top (c9 := G 25 3) (by rw [hb_qn (by decide)]; exact hn3) ?_
  exact aw_iret dX0_add_88 rfl (by rfl) rfl rfl (by decide) (by decide)
set_option maxRecDepth 20000 in
set_option maxHeartbeats 1000000 in
theorem c_addMove {l : Launch} {G : hb_G} {F : hb_F} {na : Nat} {e : Nat} (he : e < na) {G2 G3 : hb_G} {F1 : hb_F} (hm : 0 ≤ G 25 3 ∧ G 25 3 < 200) (hmv : G (77 + e) 0 = 0 ∨ G (77 + e) 0 = 1) (hH : hb_M l yX0_hasMoveAt cX0_hasMoveAt 3 (some .boolean) 1 0 0 [hb_r 25, hb_i (G (77 + e) 2)] (hb_w G F na) (77 + na) (.inl (some (hb_i (0)))) (hb_w G F na) (77 + na)) (hI : hb_M l yX0_insert cX0_insert 3 none 3 0 0 [hb_r 25, hb_r (77 + e)] (hb_w (hb_u2 G (77 + e) 3 (G 25 3)) F na) (77 + na) (.inl none) (hb_w G2 F1 na) (77 + na)) (hG2 : hb_rg G2) (hmv2 : G2 (77 + e) 0 = 0 ∨ G2 (77 + e) 0 = 1) (hP : hb_M l yX0_isPossible cX0_isPossible 3 (some .boolean) 3 0 0 [hb_r 25] (hb_w G2 F1 na) (77 + na) (.inl (some (hb_i (1)))) (hb_w G3 F1 na) (77 + na)) (hm2 : G3 25 3 = G 25 3) (hn3 : G3 (77 + e) 3 = G 25 3) (hG : hb_rg G) : hb_M l yX0_add cX0_add 2 (some .int) 4 0 0 [hb_r 25, hb_r (77 + e)] (hb_w G F na) (77 + na) (.inl (some (hb_i (G 25 3)))) (hb_w (hb_u2 G3 25 3 (G3 25 3 + 1)) (hb_v2 F1 26 (G3 25 3) (some (77 + e))) na) (77 + na) := by
  refine hb_M_in rfl rfl (by decide) rfl (Nat.le_of_ble_eq_true rfl) ?_
  intro E z0 σ0
  refine aw_ald0 dX0_add_0 ?_
  refine aw_getf dX0_add_1 hbf_X0_29 rfl rfl ?_
  refine aw_sipush dX0_add_4 (by decide) ?_
  refine aw_icmp_ge (tg := 28) dX0_add_7 (by decide) (hG _ _) (by decide) (fun c7 => absurd c7 (by omega)) (fun c7 => ?_)
  refine aw_ald1 dX0_add_10 ?_
  refine aw_V0v dX0_add_11 (c_isMove he hG) (hb_we he) rfl hbY_X1_isMove hbm_X0_37 hbi_X1_isMove hbe_X1_X1_isMove (Nat.le_of_ble_eq_true rfl) ⟨by decide, by decide⟩ (by decide) (by decide) ?_
  refine aw_ifb_eq (tg := 30) dX0_add_14 (by decide) (fun c14 => absurd c14 (by exact fun h8 => h8 hmv)) (fun c14 => ?_)
  refine aw_ald0 dX0_add_17 ?_
  refine aw_ald1 dX0_add_18 ?_
  refine aw_getf dX0_add_19 hbf_X0_41 (hb_we he) rfl ?_
  refine aw_V1v dX0_add_22 hH rfl rfl hbY_X0_hasMoveAt hbm_X0_44 hbi_X0_hasMoveAt hbe_X0_X0_hasMoveAt (Nat.le_of_ble_eq_true rfl) ⟨by decide, by decide⟩ (by decide) (by decide) ?_
  refine aw_if_eq (tg := 30) dX0_add_25 (by decide) (by decide) (fun c25 => ?_) (fun c25 => absurd c25 (by decide))
  refine aw_ald1 dX0_add_30 ?_
  refine aw_ald0 dX0_add_31 ?_
  refine aw_getf dX0_add_32 hbf_X0_29 rfl rfl ?_
  refine aw_putw dX0_add_35 hbf_X0_48 hbS_X1 (fun C T n h9 => by cases h9; exact ⟨rfl, by decide +kernel, fun h8 => by cases h8⟩) (hb_pe he) (hb_ce _ _ _) (by rw [hb_ce]; rfl) ?_
  refine aw_ald0 dX0_add_38 ?_
  refine aw_ald1 dX0_add_39 ?_
  refine aw_V1n dX0_add_40 hI rfl rfl hbY_X0_insert hbm_X0_51 hbi_X0_insert hbe_X0_X0_insert (Nat.le_of_ble_eq_true rfl) ⟨by decide, by decide⟩ (by decide) (by decide) ?_
  refine aw_ald1 dX0_add_43 ?_
  refine aw_V0v dX0_add_44 (c_isMove he hG2) (hb_we he) rfl hbY_X1_isMove hbm_X0_37 hbi_X1_isMove hbe_X1_X1_isMove (Nat.le_of_ble_eq_true rfl) ⟨by decide, by decide⟩ (by decide) (by decide) ?_
  refine aw_ifb_eq (tg := 64) dX0_add_47 (by decide) (fun c47 => absurd c47 (by exact fun h8 => h8 hmv2)) (fun c47 => ?_)
  refine aw_ald0 dX0_add_50 ?_
  refine aw_V0v dX0_add_51 hP rfl rfl hbY_X0_isPossible hbm_X0_55 hbi_X0_isPossible hbe_X0_X0_isPossible (Nat.le_of_ble_eq_true rfl) ⟨by decide, by decide⟩ (by decide) (by decide) ?_
  refine aw_if_ne (tg := 64) dX0_add_54 (by decide) (by decide) (fun c54 => ?_) (fun c54 => absurd c54 (by decide))
  refine aw_ald0 dX0_add_64 ?_
  refine aw_getf dX0_add_65 hbf_X0_11 rfl rfl ?_
  refine aw_ald0 dX0_add_68 ?_
  refine aw_getf dX0_add_69 hbf_X0_29 rfl rfl ?_
  refine aw_ald1 dX0_add_72 ?_
  refine aw_eastw dX0_add_73 (fun _ => rfl) rfl (hb_we he) (by constructor <;> omega) (by decide) ?_
  refine aw_ald0 dX0_add_74 ?_
  refine aw_dup dX0_add_75 rfl ?_
  refine aw_getf dX0_add_76 hbf_X0_29 rfl rfl ?_
  refine aw_iconst dX0_add_79 ?_
  refine aw_iadd dX0_add_80 ?_
  refine aw_putw dX0_add_81 hbf_X0_29 hbS_X0 (fun C T n h9 => by cases h9; exact ⟨rfl, by decide +kernel, fun h8 => by cases h8⟩) rfl rfl rfl ?_
  refine aw_ald1 dX0_add_84 ?_
  refine aw_getf dX0_add_85 hbf_X0_48 (hb_we he) rfl ?_
  refine aw_top (c9 := G 25 3) (by rw [hb_qn (by decide)]; exact hn3) ?_
  exact aw_iret dX0_add_88 rfl (by rfl) rfl rfl (by decide) (by decide)
set_option maxRecDepth 20000 in
set_option maxHeartbeats 1000000 in
theorem c_addNot {l : Launch} {G : hb_G} {F : hb_F} {na : Nat} {e : Nat} (he : e < na) {G2 G3 G4 : hb_G} {F1 F2 : hb_F} (hm : 0 ≤ G 25 3 ∧ G 25 3 < 200) (hmv : G (77 + e) 0 = 0 ∨ G (77 + e) 0 = 1) (hH : hb_M l yX0_hasMoveAt cX0_hasMoveAt 3 (some .boolean) 1 0 0 [hb_r 25, hb_i (G (77 + e) 2)] (hb_w G F na) (77 + na) (.inl (some (hb_i (0)))) (hb_w G F na) (77 + na)) (hI : hb_M l yX0_insert cX0_insert 3 none 3 0 0 [hb_r 25, hb_r (77 + e)] (hb_w (hb_u2 G (77 + e) 3 (G 25 3)) F na) (77 + na) (.inl none) (hb_w G2 F1 na) (77 + na)) (hG2 : hb_rg G2) (hmv2 : G2 (77 + e) 0 = 0 ∨ G2 (77 + e) 0 = 1) (hP : hb_M l yX0_isPossible cX0_isPossible 3 (some .boolean) 3 0 0 [hb_r 25] (hb_w G2 F1 na) (77 + na) (.inl (some (hb_i (0)))) (hb_w G3 F1 na) (77 + na)) (hV : hb_M l yX0_remove cX0_remove 4 none 0 0 0 [hb_r 25, hb_r (77 + e)] (hb_w G3 F1 na) (77 + na) (.inl none) (hb_w G4 F2 na) (77 + na)) (hG : hb_rg G) : hb_M l yX0_add cX0_add 2 (some .int) 4 0 0 [hb_r 25, hb_r (77 + e)] (hb_w G F na) (77 + na) (.inl (some (hb_i (-1)))) (hb_w G4 F2 na) (77 + na) := by
  refine hb_M_in rfl rfl (by decide) rfl (Nat.le_of_ble_eq_true rfl) ?_
  intro E z0 σ0
  refine aw_ald0 dX0_add_0 ?_
  refine aw_getf dX0_add_1 hbf_X0_29 rfl rfl ?_
  refine aw_sipush dX0_add_4 (by decide) ?_
  refine aw_icmp_ge (tg := 28) dX0_add_7 (by decide) (hG _ _) (by decide) (fun c7 => absurd c7 (by omega)) (fun c7 => ?_)
  refine aw_ald1 dX0_add_10 ?_
  refine aw_V0v dX0_add_11 (c_isMove he hG) (hb_we he) rfl hbY_X1_isMove hbm_X0_37 hbi_X1_isMove hbe_X1_X1_isMove (Nat.le_of_ble_eq_true rfl) ⟨by decide, by decide⟩ (by decide) (by decide) ?_
  refine aw_ifb_eq (tg := 30) dX0_add_14 (by decide) (fun c14 => absurd c14 (by exact fun h8 => h8 hmv)) (fun c14 => ?_)
  refine aw_ald0 dX0_add_17 ?_
  refine aw_ald1 dX0_add_18 ?_
  refine aw_getf dX0_add_19 hbf_X0_41 (hb_we he) rfl ?_
  refine aw_V1v dX0_add_22 hH rfl rfl hbY_X0_hasMoveAt hbm_X0_44 hbi_X0_hasMoveAt hbe_X0_X0_hasMoveAt (Nat.le_of_ble_eq_true rfl) ⟨by decide, by decide⟩ (by decide) (by decide) ?_
  refine aw_if_eq (tg := 30) dX0_add_25 (by decide) (by decide) (fun c25 => ?_) (fun c25 => absurd c25 (by decide))
  refine aw_ald1 dX0_add_30 ?_
  refine aw_ald0 dX0_add_31 ?_
  refine aw_getf dX0_add_32 hbf_X0_29 rfl rfl ?_
  refine aw_putw dX0_add_35 hbf_X0_48 hbS_X1 (fun C T n h9 => by cases h9; exact ⟨rfl, by decide +kernel, fun h8 => by cases h8⟩) (hb_pe he) (hb_ce _ _ _) (by rw [hb_ce]; rfl) ?_
  refine aw_ald0 dX0_add_38 ?_
  refine aw_ald1 dX0_add_39 ?_
  refine aw_V1n dX0_add_40 hI rfl rfl hbY_X0_insert hbm_X0_51 hbi_X0_insert hbe_X0_X0_insert (Nat.le_of_ble_eq_true rfl) ⟨by decide, by decide⟩ (by decide) (by decide) ?_
  refine aw_ald1 dX0_add_43 ?_
  refine aw_V0v dX0_add_44 (c_isMove he hG2) (hb_we he) rfl hbY_X1_isMove hbm_X0_37 hbi_X1_isMove hbe_X1_X1_isMove (Nat.le_of_ble_eq_true rfl) ⟨by decide, by decide⟩ (by decide) (by decide) ?_
  refine aw_ifb_eq (tg := 64) dX0_add_47 (by decide) (fun c47 => absurd c47 (by exact fun h8 => h8 hmv2)) (fun c47 => ?_)
  refine aw_ald0 dX0_add_50 ?_
  refine aw_V0v dX0_add_51 hP rfl rfl hbY_X0_isPossible hbm_X0_55 hbi_X0_isPossible hbe_X0_X0_isPossible (Nat.le_of_ble_eq_true rfl) ⟨by decide, by decide⟩ (by decide) (by decide) ?_
  refine aw_if_ne (tg := 64) dX0_add_54 (by decide) (by decide) (fun c54 => absurd c54 (by decide)) (fun c54 => ?_)
  refine aw_ald0 dX0_add_57 ?_
  refine aw_ald1 dX0_add_58 ?_
  refine aw_V1n dX0_add_59 hV rfl rfl hbY_X0_remove hbm_X0_58 hbi_X0_remove hbe_X0_X0_remove (Nat.le_of_ble_eq_true rfl) ⟨by decide, by decide⟩ (by decide) (by decide) ?_
  refine aw_iconst dX0_add_62 ?_
  exact aw_iret dX0_add_63 rfl (by rfl) rfl rfl (by decide) (by decide)
set_option maxRecDepth 20000 in
set_option maxHeartbeats 1000000 in
theorem c_erasePlain {l : Launch} {G : hb_G} {F : hb_F} {na : Nat} {e : Nat} (he : e < na) {v : Int} {G2 : hb_G} {F1 : hb_F} (hv : 0 ≤ v ∧ v < 200) (hF : F 26 v = some (77 + e)) (hV : hb_M l yX0_remove cX0_remove 4 none 0 0 0 [hb_r 25, hb_r (77 + e)] (hb_w G F na) (77 + na) (.inl none) (hb_w G2 F1 na) (77 + na)) (hG2 : hb_rg G2) (hmv2 : ¬ (G2 (77 + e) 0 = 0 ∨ G2 (77 + e) 0 = 1)) : hb_M l yX0_erase cX0_erase 3 (some .boolean) 4 0 0 [hb_r 25, hb_i v] (hb_w G F na) (77 + na) (.inl (some (hb_i (1)))) (hb_w G2 (hb_v2 F1 26 v none) na) (77 + na) := by
  refine hb_M_in rfl rfl (by decide) rfl (Nat.le_of_ble_eq_true rfl) ?_
  intro E z0 σ0
  refine aw_ald0 dX0_erase_0 ?_
  refine aw_getf dX0_erase_1 hbf_X0_11 rfl rfl ?_
  refine aw_ild1 dX0_erase_4 ?_
  refine aw_eald (r := some (77 + e)) dX0_erase_5 rfl (by constructor <;> omega) (by decide) hF ?_
  refine aw_apu2 dX0_erase_6 (by decide) ?_
  refine aw_ald0 dX0_erase_7 ?_
  refine aw_ald2 dX0_erase_8 ?_
  refine aw_V1n dX0_erase_9 hV rfl rfl hbY_X0_remove hbm_X0_58 hbi_X0_remove hbe_X0_X0_remove (Nat.le_of_ble_eq_true rfl) ⟨by decide, by decide⟩ (by decide) (by decide) ?_
  refine aw_ald2 dX0_erase_12 ?_
  refine aw_V0v dX0_erase_13 (c_isMove he hG2) (hb_we he) rfl hbY_X1_isMove hbm_X0_37 hbi_X1_isMove hbe_X1_X1_isMove (Nat.le_of_ble_eq_true rfl) ⟨by decide, by decide⟩ (by decide) (by decide) ?_
  refine aw_ifb_eq (tg := 33) dX0_erase_16 (by decide) (fun c16 => ?_) (fun c16 => absurd c16 (by exact fun h8 => hmv2 h8))
  refine aw_ald0 dX0_erase_33 ?_
  refine aw_getf dX0_erase_34 hbf_X0_11 rfl rfl ?_
  refine aw_ild1 dX0_erase_37 ?_
  refine aw_null dX0_erase_38 ?_
  refine aw_eastNw dX0_erase_39 (fun _ => rfl) rfl (by constructor <;> omega) (by decide) ?_
  refine aw_iconst dX0_erase_40 ?_
  exact aw_zret dX0_erase_41 rfl (by first | omega | exact hb_b01 _) (by rfl) rfl rfl (by decide) (by decide)
set_option maxRecDepth 20000 in
set_option maxHeartbeats 1000000 in
theorem c_eraseMove {l : Launch} {G : hb_G} {F : hb_F} {na : Nat} {e : Nat} (he : e < na) {v : Int} {G2 G3 : hb_G} {F1 : hb_F} (hv : 0 ≤ v ∧ v < 200) (hF : F 26 v = some (77 + e)) (hV : hb_M l yX0_remove cX0_remove 4 none 0 0 0 [hb_r 25, hb_r (77 + e)] (hb_w G F na) (77 + na) (.inl none) (hb_w G2 F1 na) (77 + na)) (hG2 : hb_rg G2) (hmv2 : G2 (77 + e) 0 = 0 ∨ G2 (77 + e) 0 = 1) (hP : hb_M l yX0_isPossible cX0_isPossible 3 (some .boolean) 3 0 0 [hb_r 25] (hb_w G2 F1 na) (77 + na) (.inl (some (hb_i (1)))) (hb_w G3 F1 na) (77 + na)) : hb_M l yX0_erase cX0_erase 3 (some .boolean) 4 0 0 [hb_r 25, hb_i v] (hb_w G F na) (77 + na) (.inl (some (hb_i (1)))) (hb_w G3 (hb_v2 F1 26 v none) na) (77 + na) := by
  refine hb_M_in rfl rfl (by decide) rfl (Nat.le_of_ble_eq_true rfl) ?_
  intro E z0 σ0
  refine aw_ald0 dX0_erase_0 ?_
  refine aw_getf dX0_erase_1 hbf_X0_11 rfl rfl ?_
  refine aw_ild1 dX0_erase_4 ?_
  refine aw_eald (r := some (77 + e)) dX0_erase_5 rfl (by constructor <;> omega) (by decide) hF ?_
  refine aw_apu2 dX0_erase_6 (by decide) ?_
  refine aw_ald0 dX0_erase_7 ?_
  refine aw_ald2 dX0_erase_8 ?_
  refine aw_V1n dX0_erase_9 hV rfl rfl hbY_X0_remove hbm_X0_58 hbi_X0_remove hbe_X0_X0_remove (Nat.le_of_ble_eq_true rfl) ⟨by decide, by decide⟩ (by decide) (by decide) ?_
  refine aw_ald2 dX0_erase_12 ?_
  refine aw_V0v dX0_erase_13 (c_isMove he hG2) (hb_we he) rfl hbY_X1_isMove hbm_X0_37 hbi_X1_isMove hbe_X1_X1_isMove (Nat.le_of_ble_eq_true rfl) ⟨by decide, by decide⟩ (by decide) (by decide) ?_
  refine aw_ifb_eq (tg := 33) dX0_erase_16 (by decide) (fun c16 => absurd c16 (by exact fun h8 => h8 hmv2)) (fun c16 => ?_)
  refine aw_ald0 dX0_erase_19 ?_
  refine aw_V0v dX0_erase_20 hP rfl rfl hbY_X0_isPossible hbm_X0_55 hbi_X0_isPossible hbe_X0_X0_isPossible (Nat.le_of_ble_eq_true rfl) ⟨by decide, by decide⟩ (by decide) (by decide) ?_
  refine aw_if_ne (tg := 33) dX0_erase_23 (by decide) (by decide) (fun c23 => ?_) (fun c23 => absurd c23 (by decide))
  refine aw_ald0 dX0_erase_33 ?_
  refine aw_getf dX0_erase_34 hbf_X0_11 rfl rfl ?_
  refine aw_ild1 dX0_erase_37 ?_
  refine aw_null dX0_erase_38 ?_
  refine aw_eastNw dX0_erase_39 (fun _ => rfl) rfl (by constructor <;> omega) (by decide) ?_
  refine aw_iconst dX0_erase_40 ?_
  exact aw_zret dX0_erase_41 rfl (by first | omega | exact hb_b01 _) (by rfl) rfl rfl (by decide) (by decide)
set_option maxRecDepth 20000 in
set_option maxHeartbeats 1000000 in
theorem c_eraseNot {l : Launch} {G : hb_G} {F : hb_F} {na : Nat} {e : Nat} (he : e < na) {v : Int} {G2 G3 G4 : hb_G} {F1 F2 : hb_F} (hv : 0 ≤ v ∧ v < 200) (hF : F 26 v = some (77 + e)) (hV : hb_M l yX0_remove cX0_remove 4 none 0 0 0 [hb_r 25, hb_r (77 + e)] (hb_w G F na) (77 + na) (.inl none) (hb_w G2 F1 na) (77 + na)) (hG2 : hb_rg G2) (hmv2 : G2 (77 + e) 0 = 0 ∨ G2 (77 + e) 0 = 1) (hP : hb_M l yX0_isPossible cX0_isPossible 3 (some .boolean) 3 0 0 [hb_r 25] (hb_w G2 F1 na) (77 + na) (.inl (some (hb_i (0)))) (hb_w G3 F1 na) (77 + na)) (hI : hb_M l yX0_insert cX0_insert 3 none 3 0 0 [hb_r 25, hb_r (77 + e)] (hb_w G3 F1 na) (77 + na) (.inl none) (hb_w G4 F2 na) (77 + na)) : hb_M l yX0_erase cX0_erase 3 (some .boolean) 4 0 0 [hb_r 25, hb_i v] (hb_w G F na) (77 + na) (.inl (some (hb_i (0)))) (hb_w G4 F2 na) (77 + na) := by
  refine hb_M_in rfl rfl (by decide) rfl (Nat.le_of_ble_eq_true rfl) ?_
  intro E z0 σ0
  refine aw_ald0 dX0_erase_0 ?_
  refine aw_getf dX0_erase_1 hbf_X0_11 rfl rfl ?_
  refine aw_ild1 dX0_erase_4 ?_
  refine aw_eald (r := some (77 + e)) dX0_erase_5 rfl (by constructor <;> omega) (by decide) hF ?_
  refine aw_apu2 dX0_erase_6 (by decide) ?_
  refine aw_ald0 dX0_erase_7 ?_
  refine aw_ald2 dX0_erase_8 ?_
  refine aw_V1n dX0_erase_9 hV rfl rfl hbY_X0_remove hbm_X0_58 hbi_X0_remove hbe_X0_X0_remove (Nat.le_of_ble_eq_true rfl) ⟨by decide, by decide⟩ (by decide) (by decide) ?_
  refine aw_ald2 dX0_erase_12 ?_
  refine aw_V0v dX0_erase_13 (c_isMove he hG2) (hb_we he) rfl hbY_X1_isMove hbm_X0_37 hbi_X1_isMove hbe_X1_X1_isMove (Nat.le_of_ble_eq_true rfl) ⟨by decide, by decide⟩ (by decide) (by decide) ?_
  refine aw_ifb_eq (tg := 33) dX0_erase_16 (by decide) (fun c16 => absurd c16 (by exact fun h8 => h8 hmv2)) (fun c16 => ?_)
  refine aw_ald0 dX0_erase_19 ?_
  refine aw_V0v dX0_erase_20 hP rfl rfl hbY_X0_isPossible hbm_X0_55 hbi_X0_isPossible hbe_X0_X0_isPossible (Nat.le_of_ble_eq_true rfl) ⟨by decide, by decide⟩ (by decide) (by decide) ?_
  refine aw_if_ne (tg := 33) dX0_erase_23 (by decide) (by decide) (fun c23 => absurd c23 (by decide)) (fun c23 => ?_)
  refine aw_ald0 dX0_erase_26 ?_
  refine aw_ald2 dX0_erase_27 ?_
  refine aw_V1n dX0_erase_28 hI rfl rfl hbY_X0_insert hbm_X0_51 hbi_X0_insert hbe_X0_X0_insert (Nat.le_of_ble_eq_true rfl) ⟨by decide, by decide⟩ (by decide) (by decide) ?_
  refine aw_iconst dX0_erase_31 ?_
  exact aw_zret dX0_erase_32 rfl (by first | omega | exact hb_b01 _) (by rfl) rfl rfl (by decide) (by decide)
set_option maxRecDepth 20000 in
set_option maxHeartbeats 1000000 in
theorem c_happen0 {l : Launch} {G : hb_G} {F : hb_F} {na : Nat} {e : Nat} (he : e < na) (hs : G (77 + e) 0 = 0) {r : Int} {G2 : hb_G} (hM : hb_M l yX7_hang cX7_hang 5 (some .boolean) 2 0 0 [hb_r 33, hb_r (77 + e)] (hb_w G F na) (77 + na) (.inl (some (hb_i (r)))) (hb_w G2 F na) (77 + na))  : hb_M l yX4_happen cX4_happen 2 none 3 0 0 [hb_r 32, hb_r (77 + e)] (hb_w G F na) (77 + na) (.inl none) (hb_w G2 F na) (77 + na) := by
  refine hb_M_in rfl rfl (by decide) rfl (Nat.le_of_ble_eq_true rfl) ?_
  intro E z0 σ0
  refine aw_ald1 dX4_happen_0 ?_
  refine aw_getf dX4_happen_1 hbf_X4_104 (hb_we he) rfl ?_
  refine aw_top (c9 := 0) hs ?_
  refine aw_tableIn (off := 36) (tg := 40) dX4_happen_4 (by decide) (by decide) (by decide) rfl (by decide) ?_
  refine aw_ald0 dX4_happen_40 ?_
  refine aw_getf dX4_happen_41 hbf_X4_46 rfl rfl ?_
  refine aw_ald1 dX4_happen_44 ?_
  refine aw_V1v dX4_happen_45 hM rfl rfl hbY_X7_hang hbm_X4_107 hbi_X7_hang hbe_X7_X7_hang (Nat.le_of_ble_eq_true rfl) ⟨by decide, by decide⟩ (by decide) (by decide) ?_
  refine aw_pop dX4_happen_48 rfl ?_
  refine aw_goto (tg := 109) dX4_happen_49 (by decide) ?_
  exact aw_vret dX4_happen_109 rfl rfl rfl rfl (by decide) (by decide)
set_option maxRecDepth 20000 in
set_option maxHeartbeats 1000000 in
theorem c_happen1 {l : Launch} {G : hb_G} {F : hb_F} {na : Nat} {e : Nat} (he : e < na) (hs : G (77 + e) 0 = 1) {r : Int} {G2 : hb_G} (hM : hb_M l yX7_unhang cX7_unhang 2 (some .boolean) 0 0 0 [hb_r 33, hb_i (G (77 + e) 1)] (hb_w G F na) (77 + na) (.inl (some (hb_i (r)))) (hb_w G2 F na) (77 + na))  : hb_M l yX4_happen cX4_happen 2 none 3 0 0 [hb_r 32, hb_r (77 + e)] (hb_w G F na) (77 + na) (.inl none) (hb_w G2 F na) (77 + na) := by
  refine hb_M_in rfl rfl (by decide) rfl (Nat.le_of_ble_eq_true rfl) ?_
  intro E z0 σ0
  refine aw_ald1 dX4_happen_0 ?_
  refine aw_getf dX4_happen_1 hbf_X4_104 (hb_we he) rfl ?_
  refine aw_top (c9 := 1) hs ?_
  refine aw_tableIn (off := 48) (tg := 52) dX4_happen_4 (by decide) (by decide) (by decide) rfl (by decide) ?_
  refine aw_ald0 dX4_happen_52 ?_
  refine aw_getf dX4_happen_53 hbf_X4_46 rfl rfl ?_
  refine aw_ald1 dX4_happen_56 ?_
  refine aw_getf dX4_happen_57 hbf_X4_111 (hb_we he) rfl ?_
  refine aw_V1v dX4_happen_60 hM rfl rfl hbY_X7_unhang hbm_X4_114 hbi_X7_unhang hbe_X7_X7_unhang (Nat.le_of_ble_eq_true rfl) ⟨by decide, by decide⟩ (by decide) (by decide) ?_
  refine aw_pop dX4_happen_63 rfl ?_
  refine aw_goto (tg := 109) dX4_happen_64 (by decide) ?_
  exact aw_vret dX4_happen_109 rfl rfl rfl rfl (by decide) (by decide)
set_option maxRecDepth 20000 in
set_option maxHeartbeats 1000000 in
theorem c_happen2 {l : Launch} {G : hb_G} {F : hb_F} {na : Nat} {e : Nat} (he : e < na) (hs : G (77 + e) 0 = 2) {G2 : hb_G} (hM : hb_M l yX4_fly cX4_fly 3 none 1 0 0 [hb_r 32, hb_r (77 + e)] (hb_w G F na) (77 + na) (.inl none) (hb_w G2 F na) (77 + na))  : hb_M l yX4_happen cX4_happen 2 none 3 0 0 [hb_r 32, hb_r (77 + e)] (hb_w G F na) (77 + na) (.inl none) (hb_w G2 F na) (77 + na) := by
  refine hb_M_in rfl rfl (by decide) rfl (Nat.le_of_ble_eq_true rfl) ?_
  intro E z0 σ0
  refine aw_ald1 dX4_happen_0 ?_
  refine aw_getf dX4_happen_1 hbf_X4_104 (hb_we he) rfl ?_
  refine aw_top (c9 := 2) hs ?_
  refine aw_tableIn (off := 63) (tg := 67) dX4_happen_4 (by decide) (by decide) (by decide) rfl (by decide) ?_
  refine aw_ald0 dX4_happen_67 ?_
  refine aw_ald1 dX4_happen_68 ?_
  refine aw_V1n dX4_happen_69 hM rfl rfl hbY_X4_fly hbm_X4_117 hbi_X4_fly hbe_X4_X4_fly (Nat.le_of_ble_eq_true rfl) ⟨by decide, by decide⟩ (by decide) (by decide) ?_
  refine aw_goto (tg := 109) dX4_happen_72 (by decide) ?_
  exact aw_vret dX4_happen_109 rfl rfl rfl rfl (by decide) (by decide)
set_option maxRecDepth 20000 in
set_option maxHeartbeats 1000000 in
theorem c_happen3 {l : Launch} {G : hb_G} {F : hb_F} {na : Nat} {e : Nat} (he : e < na) (hs : G (77 + e) 0 = 3) {G2 : hb_G} (hM : hb_M l yX4_doTask cX4_doTask 9 none 1 0 0 [hb_r 32, hb_r (77 + e)] (hb_w G F na) (77 + na) (.inl none) (hb_w G2 F na) (77 + na))  : hb_M l yX4_happen cX4_happen 2 none 3 0 0 [hb_r 32, hb_r (77 + e)] (hb_w G F na) (77 + na) (.inl none) (hb_w G2 F na) (77 + na) := by
  refine hb_M_in rfl rfl (by decide) rfl (Nat.le_of_ble_eq_true rfl) ?_
  intro E z0 σ0
  refine aw_ald1 dX4_happen_0 ?_
  refine aw_getf dX4_happen_1 hbf_X4_104 (hb_we he) rfl ?_
  refine aw_top (c9 := 3) hs ?_
  refine aw_tableIn (off := 71) (tg := 75) dX4_happen_4 (by decide) (by decide) (by decide) rfl (by decide) ?_
  refine aw_ald0 dX4_happen_75 ?_
  refine aw_ald1 dX4_happen_76 ?_
  refine aw_V1n dX4_happen_77 hM rfl rfl hbY_X4_doTask hbm_X4_120 hbi_X4_doTask hbe_X4_X4_doTask (Nat.le_of_ble_eq_true rfl) ⟨by decide, by decide⟩ (by decide) (by decide) ?_
  refine aw_goto (tg := 109) dX4_happen_80 (by decide) ?_
  exact aw_vret dX4_happen_109 rfl rfl rfl rfl (by decide) (by decide)
set_option maxRecDepth 20000 in
set_option maxHeartbeats 1000000 in
theorem c_happen4 {l : Launch} {G : hb_G} {F : hb_F} {na : Nat} {e : Nat} (he : e < na) (hs : G (77 + e) 0 = 4) {G2 : hb_G} (hM : hb_M l yX4_postpone cX4_postpone 5 none 1 0 0 [hb_r 32, hb_r (77 + e)] (hb_w G F na) (77 + na) (.inl none) (hb_w G2 F na) (77 + na))  : hb_M l yX4_happen cX4_happen 2 none 3 0 0 [hb_r 32, hb_r (77 + e)] (hb_w G F na) (77 + na) (.inl none) (hb_w G2 F na) (77 + na) := by
  refine hb_M_in rfl rfl (by decide) rfl (Nat.le_of_ble_eq_true rfl) ?_
  intro E z0 σ0
  refine aw_ald1 dX4_happen_0 ?_
  refine aw_getf dX4_happen_1 hbf_X4_104 (hb_we he) rfl ?_
  refine aw_top (c9 := 4) hs ?_
  refine aw_tableIn (off := 79) (tg := 83) dX4_happen_4 (by decide) (by decide) (by decide) rfl (by decide) ?_
  refine aw_ald0 dX4_happen_83 ?_
  refine aw_ald1 dX4_happen_84 ?_
  refine aw_V1n dX4_happen_85 hM rfl rfl hbY_X4_postpone hbm_X4_123 hbi_X4_postpone hbe_X4_X4_postpone (Nat.le_of_ble_eq_true rfl) ⟨by decide, by decide⟩ (by decide) (by decide) ?_
  refine aw_goto (tg := 109) dX4_happen_88 (by decide) ?_
  exact aw_vret dX4_happen_109 rfl rfl rfl rfl (by decide) (by decide)
set_option maxRecDepth 20000 in
set_option maxHeartbeats 1000000 in
theorem c_happen5 {l : Launch} {G : hb_G} {F : hb_F} {na : Nat} {e : Nat} (he : e < na) (hs : G (77 + e) 0 = 5) (ht : 0 ≤ G (77 + e) 1 ∧ G (77 + e) 1 < 40)  : hb_M l yX4_happen cX4_happen 2 none 3 0 0 [hb_r 32, hb_r (77 + e)] (hb_w G F na) (77 + na) (.inl none) (hb_w (hb_rb G (77 + e)) F na) (77 + na) := by
  refine hb_M_in rfl rfl (by decide) rfl (Nat.le_of_ble_eq_true rfl) ?_
  intro E z0 σ0
  refine aw_ald1 dX4_happen_0 ?_
  refine aw_getf dX4_happen_1 hbf_X4_104 (hb_we he) rfl ?_
  refine aw_top (c9 := 5) hs ?_
  refine aw_tableOut (tg := 91) dX4_happen_4 (by decide) (by decide) (by decide) ?_
  refine aw_ald0 dX4_happen_91 ?_
  refine aw_getf dX4_happen_92 hbf_X4_23 rfl rfl ?_
  refine aw_ald1 dX4_happen_95 ?_
  refine aw_getf dX4_happen_96 hbf_X4_111 (hb_we he) rfl ?_
  refine aw_dup2 dX4_happen_99 rfl rfl ?_
  refine aw_iald dX4_happen_100 rfl (by constructor <;> omega) (by decide) ?_
  refine aw_iconst dX4_happen_101 ?_
  refine aw_ald1 dX4_happen_102 ?_
  refine aw_getf dX4_happen_103 hbf_X4_126 (hb_we he) rfl ?_
  refine aw_ishl dX4_happen_106 ?_
  refine aw_ior dX4_happen_107 ?_
  refine aw_iastw dX4_happen_108 (fun _ => rfl) rfl (by constructor <;> omega) (by decide) ?_
  exact aw_vret dX4_happen_109 rfl rfl rfl rfl (by decide) (by decide)
set_option maxRecDepth 20000 in
set_option maxHeartbeats 1000000 in
theorem c_showOn {l : Launch} {G : hb_G} {F : hb_F} {na : Nat} {pt : Int} {SS : Nat → hb_G} {m n0 : Nat} {jx : Int → Nat} (hpt : hb_in pt) (hN : ∀ j, j ≤ m → SS j 32 10 = (n0 : Int) + j) (hR : ∀ j, j ≤ m → hb_rg (SS j)) (h25 : ∀ j, j ≤ m → SS j 25 4 = G 25 4) (hl : (n0 : Int) + m ≤ G 25 4) (hl2 : G 25 4 ≤ 200) (hF : ∀ k : Int, 0 ≤ k ∧ k < G 25 4 → F 27 k = some (77 + jx k) ∧ jx k < na) (hgo : ∀ j, j < m → SS j (77 + jx ((n0 : Int) + j)) 2 ≤ pt) (hst : (n0 : Int) + m = G 25 4 ∨ ((n0 : Int) + m < G 25 4 ∧ pt < SS m (77 + jx ((n0 : Int) + m)) 2)) (hH : ∀ j, j < m → ∃ H9 : hb_G, hb_M l yX4_happen cX4_happen 2 none 3 0 0 [hb_r 32, hb_r (77 + jx ((n0 : Int) + j))] (hb_w (SS j) F na) (77 + na) (.inl none) (hb_w H9 F na) (77 + na) ∧ SS (j + 1) = hb_u2 H9 32 10 (H9 32 10 + 1)) (hsh : G 32 9 ≠ -1 ∧ G 32 9 ≤ pt) (hS0 : G = SS 0) (hG : hb_rg G) : hb_M l yX4_show cX4_show 2 none 4 0 0 [hb_r 32, hb_i pt] (hb_w G F na) (77 + na) (.inl none) (hb_w (hb_u2 (SS m) 32 9 pt) F na) (77 + na) := by
  refine hb_M_in rfl rfl (by decide) rfl (Nat.le_of_ble_eq_true rfl) ?_
  intro E z0 σ0
  have key : ∀ (r j : Nat), j + r = m → hb_W l RX4 cX4_show 2 none "show" [] E z0 (hb_rm 4 0 0) σ0 (77 + na) (.inl none) (hb_w (hb_u2 (SS m) 32 9 pt) F na) (77 + na) 0 0 20 [hb_r 32, hb_i pt] [] (hb_w (SS j) F na) (77 + na) := by
    intro r
    induction r with
    | zero =>
      intro j h0
      have e9 : j = m := by omega
      subst e9
      have a1 := hN j (by omega)
      have a2 := h25 j (by omega)
      have a3 := hR j (by omega)
      rcases hst with h8 | ⟨h8, h7⟩
      · have h8 := h8
        refine aw_ald0 dX4_show_20 ?_
        refine aw_getf dX4_show_21 hbf_X4_53 rfl rfl ?_
        refine aw_ald0 dX4_show_24 ?_
        refine aw_getf dX4_show_25 hbf_X4_42 rfl rfl ?_
        refine aw_getf dX4_show_28 hbf_X4_56 rfl rfl ?_
        refine aw_icmp_ge (tg := 82) dX4_show_31 (by decide) (by constructor <;> omega) (by constructor <;> omega) (fun c31 => ?_) (fun c31 => absurd c31 (by omega))
        refine aw_ald0 dX4_show_82 ?_
        refine aw_ild1 dX4_show_83 ?_
        refine aw_putw dX4_show_84 hbf_X4_26 hbS_X4 (fun C T n h9 => by cases h9; exact ⟨rfl, by decide +kernel, fun h8 => by cases h8⟩) rfl rfl rfl ?_
        exact aw_vret dX4_show_87 rfl rfl rfl rfl (by decide) (by decide)
      · have hk := hF ((n0 : Int) + j) (by omega)
        refine aw_ald0 dX4_show_20 ?_
        refine aw_getf dX4_show_21 hbf_X4_53 rfl rfl ?_
        refine aw_ald0 dX4_show_24 ?_
        refine aw_getf dX4_show_25 hbf_X4_42 rfl rfl ?_
        refine aw_getf dX4_show_28 hbf_X4_56 rfl rfl ?_
        refine aw_icmp_ge (tg := 82) dX4_show_31 (by decide) (by constructor <;> omega) (by constructor <;> omega) (fun c31 => absurd c31 (by omega)) (fun c31 => ?_)
        refine aw_ald0 dX4_show_34 ?_
        refine aw_getf dX4_show_35 hbf_X4_42 rfl rfl ?_
        refine aw_getf dX4_show_38 hbf_X4_61 rfl rfl ?_
        refine aw_ald0 dX4_show_41 ?_
        refine aw_getf dX4_show_42 hbf_X4_53 rfl rfl ?_
        refine aw_top (c9 := (n0 : Int) + j) a1 ?_
        refine aw_eald (r := some (77 + jx ((n0 : Int) + j))) dX4_show_45 rfl (by constructor <;> omega) (by decide) hk.1 ?_
        refine aw_getf dX4_show_46 hbf_X4_65 (hb_we hk.2) rfl ?_
        refine aw_ild1 dX4_show_49 ?_
        refine aw_icmp_gt (tg := 82) dX4_show_50 (by decide) (a3 _ _) hpt (fun c50 => ?_) (fun c50 => absurd c50 (by omega))
        refine aw_ald0 dX4_show_82 ?_
        refine aw_ild1 dX4_show_83 ?_
        refine aw_putw dX4_show_84 hbf_X4_26 hbS_X4 (fun C T n h9 => by cases h9; exact ⟨rfl, by decide +kernel, fun h8 => by cases h8⟩) rfl rfl rfl ?_
        exact aw_vret dX4_show_87 rfl rfl rfl rfl (by decide) (by decide)
    | succ r ih =>
      intro j h0
      have a1 := hN j (by omega)
      have a2 := h25 j (by omega)
      have a3 := hR j (by omega)
      have a4 := hgo j (by omega)
      have hk := hF ((n0 : Int) + j) (by omega)
      obtain ⟨H9, hM, hE⟩ := hH j (by omega)
      refine aw_ald0 dX4_show_20 ?_
      refine aw_getf dX4_show_21 hbf_X4_53 rfl rfl ?_
      refine aw_ald0 dX4_show_24 ?_
      refine aw_getf dX4_show_25 hbf_X4_42 rfl rfl ?_
      refine aw_getf dX4_show_28 hbf_X4_56 rfl rfl ?_
      refine aw_icmp_ge (tg := 82) dX4_show_31 (by decide) (by constructor <;> omega) (by constructor <;> omega) (fun c31 => absurd c31 (by omega)) (fun c31 => ?_)
      refine aw_ald0 dX4_show_34 ?_
      refine aw_getf dX4_show_35 hbf_X4_42 rfl rfl ?_
      refine aw_getf dX4_show_38 hbf_X4_61 rfl rfl ?_
      refine aw_ald0 dX4_show_41 ?_
      refine aw_getf dX4_show_42 hbf_X4_53 rfl rfl ?_
      refine aw_top (c9 := (n0 : Int) + j) a1 ?_
      refine aw_eald (r := some (77 + jx ((n0 : Int) + j))) dX4_show_45 rfl (by constructor <;> omega) (by decide) hk.1 ?_
      refine aw_getf dX4_show_46 hbf_X4_65 (hb_we hk.2) rfl ?_
      refine aw_ild1 dX4_show_49 ?_
      refine aw_icmp_gt (tg := 82) dX4_show_50 (by decide) (a3 _ _) hpt (fun c50 => absurd c50 (by omega)) (fun c50 => ?_)
      refine aw_ald0 dX4_show_53 ?_
      refine aw_ald0 dX4_show_54 ?_
      refine aw_getf dX4_show_55 hbf_X4_42 rfl rfl ?_
      refine aw_getf dX4_show_58 hbf_X4_61 rfl rfl ?_
      refine aw_ald0 dX4_show_61 ?_
      refine aw_getf dX4_show_62 hbf_X4_53 rfl rfl ?_
      refine aw_top (c9 := (n0 : Int) + j) a1 ?_
      refine aw_eald (r := some (77 + jx ((n0 : Int) + j))) dX4_show_65 rfl (by constructor <;> omega) (by decide) hk.1 ?_
      refine aw_V1n dX4_show_66 hM rfl rfl hbY_X4_happen hbm_X4_70 hbi_X4_happen hbe_X4_X4_happen (Nat.le_of_ble_eq_true rfl) ⟨by decide, by decide⟩ (by decide) (by decide) ?_
      refine aw_ald0 dX4_show_69 ?_
      refine aw_dup dX4_show_70 rfl ?_
      refine aw_getf dX4_show_71 hbf_X4_53 rfl rfl ?_
      refine aw_iconst dX4_show_74 ?_
      refine aw_iadd dX4_show_75 ?_
      refine aw_putw dX4_show_76 hbf_X4_53 hbS_X4 (fun C T n h9 => by cases h9; exact ⟨rfl, by decide +kernel, fun h8 => by cases h8⟩) rfl rfl rfl ?_
      refine aw_goto (tg := 20) dX4_show_79 (by decide) ?_
      refine aw_G (G2 := SS (j + 1)) hE.symm ?_
      exact ih (j + 1) (by omega)
  refine aw_ald0 dX4_show_0 ?_
  refine aw_getf dX4_show_1 hbf_X4_26 rfl rfl ?_
  refine aw_iconst dX4_show_4 ?_
  refine aw_icmp_eq (tg := 16) dX4_show_5 (by decide) (hG _ _) (by decide) (fun c5 => absurd c5 (by omega)) (fun c5 => ?_)
  refine aw_ild1 dX4_show_8 ?_
  refine aw_ald0 dX4_show_9 ?_
  refine aw_getf dX4_show_10 hbf_X4_26 rfl rfl ?_
  refine aw_icmp_ge (tg := 20) dX4_show_13 (by decide) hpt (hG _ _) (fun c13 => ?_) (fun c13 => absurd c13 (by omega))
  refine aw_G (G2 := SS 0) hS0 ?_
  exact key m 0 (by omega)
set_option maxRecDepth 20000 in
set_option maxHeartbeats 1000000 in
theorem c_showNew {l : Launch} {G : hb_G} {F : hb_F} {na : Nat} {pt : Int} {SS : Nat → hb_G} {m n0 : Nat} {jx : Int → Nat} (hpt : hb_in pt) (hN : ∀ j, j ≤ m → SS j 32 10 = (n0 : Int) + j) (hR : ∀ j, j ≤ m → hb_rg (SS j)) (h25 : ∀ j, j ≤ m → SS j 25 4 = G 25 4) (hl : (n0 : Int) + m ≤ G 25 4) (hl2 : G 25 4 ≤ 200) (hF : ∀ k : Int, 0 ≤ k ∧ k < G 25 4 → F 27 k = some (77 + jx k) ∧ jx k < na) (hgo : ∀ j, j < m → SS j (77 + jx ((n0 : Int) + j)) 2 ≤ pt) (hst : (n0 : Int) + m = G 25 4 ∨ ((n0 : Int) + m < G 25 4 ∧ pt < SS m (77 + jx ((n0 : Int) + m)) 2)) (hH : ∀ j, j < m → ∃ H9 : hb_G, hb_M l yX4_happen cX4_happen 2 none 3 0 0 [hb_r 32, hb_r (77 + jx ((n0 : Int) + j))] (hb_w (SS j) F na) (77 + na) (.inl none) (hb_w H9 F na) (77 + na) ∧ SS (j + 1) = hb_u2 H9 32 10 (H9 32 10 + 1)) (hsh : G 32 9 = -1 ∨ pt < G 32 9) (hB : hb_M l yX4_begin cX4_begin 2 none 3 0 0 [hb_r 32] (hb_w G F na) (77 + na) (.inl none) (hb_w (SS 0) F na) (77 + na)) (hG : hb_rg G) : hb_M l yX4_show cX4_show 2 none 4 0 0 [hb_r 32, hb_i pt] (hb_w G F na) (77 + na) (.inl none) (hb_w (hb_u2 (SS m) 32 9 pt) F na) (77 + na) := by
  refine hb_M_in rfl rfl (by decide) rfl (Nat.le_of_ble_eq_true rfl) ?_
  intro E z0 σ0
  have key : ∀ (r j : Nat), j + r = m → hb_W l RX4 cX4_show 2 none "show" [] E z0 (hb_rm 4 0 0) σ0 (77 + na) (.inl none) (hb_w (hb_u2 (SS m) 32 9 pt) F na) (77 + na) 0 0 20 [hb_r 32, hb_i pt] [] (hb_w (SS j) F na) (77 + na) := by
    intro r
    induction r with
    | zero =>
      intro j h0
      have e9 : j = m := by omega
      subst e9
      have a1 := hN j (by omega)
      have a2 := h25 j (by omega)
      have a3 := hR j (by omega)
      rcases hst with h8 | ⟨h8, h7⟩
      · have h8 := h8
        refine aw_ald0 dX4_show_20 ?_
        refine aw_getf dX4_show_21 hbf_X4_53 rfl rfl ?_
        refine aw_ald0 dX4_show_24 ?_
        refine aw_getf dX4_show_25 hbf_X4_42 rfl rfl ?_
        refine aw_getf dX4_show_28 hbf_X4_56 rfl rfl ?_
        refine aw_icmp_ge (tg := 82) dX4_show_31 (by decide) (by constructor <;> omega) (by constructor <;> omega) (fun c31 => ?_) (fun c31 => absurd c31 (by omega))
        refine aw_ald0 dX4_show_82 ?_
        refine aw_ild1 dX4_show_83 ?_
        refine aw_putw dX4_show_84 hbf_X4_26 hbS_X4 (fun C T n h9 => by cases h9; exact ⟨rfl, by decide +kernel, fun h8 => by cases h8⟩) rfl rfl rfl ?_
        exact aw_vret dX4_show_87 rfl rfl rfl rfl (by decide) (by decide)
      · have hk := hF ((n0 : Int) + j) (by omega)
        refine aw_ald0 dX4_show_20 ?_
        refine aw_getf dX4_show_21 hbf_X4_53 rfl rfl ?_
        refine aw_ald0 dX4_show_24 ?_
        refine aw_getf dX4_show_25 hbf_X4_42 rfl rfl ?_
        refine aw_getf dX4_show_28 hbf_X4_56 rfl rfl ?_
        refine aw_icmp_ge (tg := 82) dX4_show_31 (by decide) (by constructor <;> omega) (by constructor <;> omega) (fun c31 => absurd c31 (by omega)) (fun c31 => ?_)
        refine aw_ald0 dX4_show_34 ?_
        refine aw_getf dX4_show_35 hbf_X4_42 rfl rfl ?_
        refine aw_getf dX4_show_38 hbf_X4_61 rfl rfl ?_
        refine aw_ald0 dX4_show_41 ?_
        refine aw_getf dX4_show_42 hbf_X4_53 rfl rfl ?_
        refine aw_top (c9 := (n0 : Int) + j) a1 ?_
        refine aw_eald (r := some (77 + jx ((n0 : Int) + j))) dX4_show_45 rfl (by constructor <;> omega) (by decide) hk.1 ?_
        refine aw_getf dX4_show_46 hbf_X4_65 (hb_we hk.2) rfl ?_
        refine aw_ild1 dX4_show_49 ?_
        refine aw_icmp_gt (tg := 82) dX4_show_50 (by decide) (a3 _ _) hpt (fun c50 => ?_) (fun c50 => absurd c50 (by omega))
        refine aw_ald0 dX4_show_82 ?_
        refine aw_ild1 dX4_show_83 ?_
        refine aw_putw dX4_show_84 hbf_X4_26 hbS_X4 (fun C T n h9 => by cases h9; exact ⟨rfl, by decide +kernel, fun h8 => by cases h8⟩) rfl rfl rfl ?_
        exact aw_vret dX4_show_87 rfl rfl rfl rfl (by decide) (by decide)
    | succ r ih =>
      intro j h0
      have a1 := hN j (by omega)
      have a2 := h25 j (by omega)
      have a3 := hR j (by omega)
      have a4 := hgo j (by omega)
      have hk := hF ((n0 : Int) + j) (by omega)
      obtain ⟨H9, hM, hE⟩ := hH j (by omega)
      refine aw_ald0 dX4_show_20 ?_
      refine aw_getf dX4_show_21 hbf_X4_53 rfl rfl ?_
      refine aw_ald0 dX4_show_24 ?_
      refine aw_getf dX4_show_25 hbf_X4_42 rfl rfl ?_
      refine aw_getf dX4_show_28 hbf_X4_56 rfl rfl ?_
      refine aw_icmp_ge (tg := 82) dX4_show_31 (by decide) (by constructor <;> omega) (by constructor <;> omega) (fun c31 => absurd c31 (by omega)) (fun c31 => ?_)
      refine aw_ald0 dX4_show_34 ?_
      refine aw_getf dX4_show_35 hbf_X4_42 rfl rfl ?_
      refine aw_getf dX4_show_38 hbf_X4_61 rfl rfl ?_
      refine aw_ald0 dX4_show_41 ?_
      refine aw_getf dX4_show_42 hbf_X4_53 rfl rfl ?_
      refine aw_top (c9 := (n0 : Int) + j) a1 ?_
      refine aw_eald (r := some (77 + jx ((n0 : Int) + j))) dX4_show_45 rfl (by constructor <;> omega) (by decide) hk.1 ?_
      refine aw_getf dX4_show_46 hbf_X4_65 (hb_we hk.2) rfl ?_
      refine aw_ild1 dX4_show_49 ?_
      refine aw_icmp_gt (tg := 82) dX4_show_50 (by decide) (a3 _ _) hpt (fun c50 => absurd c50 (by omega)) (fun c50 => ?_)
      refine aw_ald0 dX4_show_53 ?_
      refine aw_ald0 dX4_show_54 ?_
      refine aw_getf dX4_show_55 hbf_X4_42 rfl rfl ?_
      refine aw_getf dX4_show_58 hbf_X4_61 rfl rfl ?_
      refine aw_ald0 dX4_show_61 ?_
      refine aw_getf dX4_show_62 hbf_X4_53 rfl rfl ?_
      refine aw_top (c9 := (n0 : Int) + j) a1 ?_
      refine aw_eald (r := some (77 + jx ((n0 : Int) + j))) dX4_show_65 rfl (by constructor <;> omega) (by decide) hk.1 ?_
      refine aw_V1n dX4_show_66 hM rfl rfl hbY_X4_happen hbm_X4_70 hbi_X4_happen hbe_X4_X4_happen (Nat.le_of_ble_eq_true rfl) ⟨by decide, by decide⟩ (by decide) (by decide) ?_
      refine aw_ald0 dX4_show_69 ?_
      refine aw_dup dX4_show_70 rfl ?_
      refine aw_getf dX4_show_71 hbf_X4_53 rfl rfl ?_
      refine aw_iconst dX4_show_74 ?_
      refine aw_iadd dX4_show_75 ?_
      refine aw_putw dX4_show_76 hbf_X4_53 hbS_X4 (fun C T n h9 => by cases h9; exact ⟨rfl, by decide +kernel, fun h8 => by cases h8⟩) rfl rfl rfl ?_
      refine aw_goto (tg := 20) dX4_show_79 (by decide) ?_
      refine aw_G (G2 := SS (j + 1)) hE.symm ?_
      exact ih (j + 1) (by omega)
  rcases Classical.em (G 32 9 = -1) with hs | hs
  · have hs := hs
    refine aw_ald0 dX4_show_0 ?_
    refine aw_getf dX4_show_1 hbf_X4_26 rfl rfl ?_
    refine aw_iconst dX4_show_4 ?_
    refine aw_icmp_eq (tg := 16) dX4_show_5 (by decide) (hG _ _) (by decide) (fun c5 => ?_) (fun c5 => absurd c5 (by omega))
    refine aw_ald0 dX4_show_16 ?_
    refine aw_V0n dX4_show_17 hB rfl rfl hbY_X4_begin hbm_X4_50 hbi_X4_begin hbe_X4_X4_begin (Nat.le_of_ble_eq_true rfl) ⟨by decide, by decide⟩ (by decide) (by decide) ?_
    exact key m 0 (by omega)
  · have hs := hs
    refine aw_ald0 dX4_show_0 ?_
    refine aw_getf dX4_show_1 hbf_X4_26 rfl rfl ?_
    refine aw_iconst dX4_show_4 ?_
    refine aw_icmp_eq (tg := 16) dX4_show_5 (by decide) (hG _ _) (by decide) (fun c5 => absurd c5 (by omega)) (fun c5 => ?_)
    refine aw_ild1 dX4_show_8 ?_
    refine aw_ald0 dX4_show_9 ?_
    refine aw_getf dX4_show_10 hbf_X4_26 rfl rfl ?_
    refine aw_icmp_ge (tg := 20) dX4_show_13 (by decide) hpt (hG _ _) (fun c13 => absurd c13 (by omega)) (fun c13 => ?_)
    refine aw_ald0 dX4_show_16 ?_
    refine aw_V0n dX4_show_17 hB rfl rfl hbY_X4_begin hbm_X4_50 hbi_X4_begin hbe_X4_X4_begin (Nat.le_of_ble_eq_true rfl) ⟨by decide, by decide⟩ (by decide) (by decide) ?_
    exact key m 0 (by omega)
