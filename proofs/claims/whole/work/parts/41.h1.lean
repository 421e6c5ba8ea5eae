theorem hbYH_flight : hb_YH yL_flight cL_flight 7 (some .int) [(0, 14, 17, 13), (0, 14, 21, 15)] 6 := ⟨hb_ws_of (List.mem_of_getElem? (i := 568) (by decide +kernel)) (by decide +kernel), hb_ws_of (List.mem_of_getElem? (i := 55) (by decide +kernel)) (by decide +kernel), by decide, by decide, by decide +kernel⟩
theorem c_LflightY {l : Launch} {G G1 : hb_G} {F F1 : hb_F} {na na1 : Nat} {a b c d v : Int} (hM : hb_M l yX8_flight cX8_flight 6 (some .int) 7 1 9 [hb_r 0, hb_i a, hb_i b, hb_i c, hb_i d] (hb_w G F na) (77 + na) (.inl (some (hb_i v))) (hb_w G1 F1 na1) (77 + na1)) (hv : hb_in v) : hb_MH l yL_flight cL_flight 7 (some .int) [(0, 14, 17, 13), (0, 14, 21, 15)] 8 1 9 [hb_r 0, hb_i a, hb_i b, hb_i c, hb_i d, hb_r 76] (hb_w G F na) (77 + na) (.inl (some (hb_i 0))) (hb_w (hb_u2 G1 76 0 v) F1 na1) (77 + na1) := by
  refine hb_MH_in rfl rfl (by decide) rfl (Nat.le_of_ble_eq_true rfl) ?_
  intro E z0 σ0
  refine aw_ald5 dL_flight_0 ?_
  refine aw_iconst dL_flight_2 ?_
  refine aw_ald0 dL_flight_3 ?_
  refine aw_ild1 dL_flight_4 ?_
  refine aw_ild2 dL_flight_5 ?_
  refine aw_ild3 dL_flight_6 ?_
  refine aw_ild4 dL_flight_7 ?_
  refine aw_callV (As := [hb_i a, hb_i b, hb_i c, hb_i d]) (rest := [hb_i 0, hb_r 76]) (ci := 8) dL_flight_9 hM (by rfl) rfl hbY_X8_flight hbm_L_7 hbi_X8_flight hbe_X8_X8_flight (by decide) ⟨by decide, by decide⟩ (by decide) (by decide) (hb_nwi (by intro p hp; simp at hp <;> omega)) (hb_nwi (by intro p hp; simp at hp <;> omega)) ?_
  refine aw_i2l dL_flight_12 hv ?_
  refine aw_lastw dL_flight_13 (fun _ => rfl) rfl (by decide) (by decide) ?_
  refine aw_goto dL_flight_14 (tg := 25) (by decide) ?_
  refine aw_iconst dL_flight_25 ?_
  exact aw_iret dL_flight_26 rfl rfl rfl rfl (by decide) (by decide)
theorem c_LflightR {l : Launch} {G G1 : hb_G} {F F1 : hb_F} {na na1 : Nat} {a b c d : Int} (hM : hb_M l yX8_flight cX8_flight 6 (some .int) 7 1 6 [hb_r 0, hb_i a, hb_i b, hb_i c, hb_i d] (hb_w G F na) (77 + na) (.inr "java/lang/IllegalArgumentException") (hb_w G1 F1 na1) (77 + na1)) : hb_MH l yL_flight cL_flight 7 (some .int) [(0, 14, 17, 13), (0, 14, 21, 15)] 8 1 6 [hb_r 0, hb_i a, hb_i b, hb_i c, hb_i d, hb_r 76] (hb_w G F na) (77 + na) (.inl (some (hb_i 1))) (hb_w G1 F1 na1) (77 + na1) := by
  refine hb_MH_in rfl rfl (by decide) rfl (Nat.le_of_ble_eq_true rfl) ?_
  intro E z0 σ0
  refine aw_ald5 dL_flight_0 ?_
  refine aw_iconst dL_flight_2 ?_
  refine aw_ald0 dL_flight_3 ?_
  refine aw_ild1 dL_flight_4 ?_
  refine aw_ild2 dL_flight_5 ?_
  refine aw_ild3 dL_flight_6 ?_
  refine aw_ild4 dL_flight_7 ?_
  refine aw_callVc (As := [hb_i a, hb_i b, hb_i c, hb_i d]) (rest := [hb_i 0, hb_r 76]) (ci := 8) [] ⟨0, 14, 17, 13⟩ [⟨0, 14, 21, 15⟩] dL_flight_9 hM (by rfl) rfl hbY_X8_flight hbm_L_7 hbi_X8_flight hbe_X8_X8_flight (by decide) ⟨by decide, by decide⟩ (by decide) (by decide) (hb_nwi (by intro p hp; simp at hp <;> omega)) rfl (fun z hz => nomatch hz) (by decide) (by decide) hbc_L_13 (fun U hU => hU.2.2.2.1) ?_
  refine aw_ux dL_flight_17 (by decide) (Nat.le_of_ble_eq_true rfl) ?_
  refine aw_iconst dL_flight_19 ?_
  exact aw_iret dL_flight_20 rfl rfl rfl rfl (by decide) (by decide)
theorem c_LflightX {l : Launch} {G G1 : hb_G} {F F1 : hb_F} {na na1 : Nat} {a b c d : Int} (hM : hb_M l yX8_flight cX8_flight 6 (some .int) 7 2 15 [hb_r 0, hb_i a, hb_i b, hb_i c, hb_i d] (hb_w G F na) (77 + na) (.inr "java/lang/IllegalStateException") (hb_w G1 F1 na1) (77 + na1)) : hb_MH l yL_flight cL_flight 7 (some .int) [(0, 14, 17, 13), (0, 14, 21, 15)] 8 2 15 [hb_r 0, hb_i a, hb_i b, hb_i c, hb_i d, hb_r 76] (hb_w G F na) (77 + na) (.inl (some (hb_i 2))) (hb_w G1 F1 na1) (77 + na1) := by
  refine hb_MH_in rfl rfl (by decide) rfl (Nat.le_of_ble_eq_true rfl) ?_
  intro E z0 σ0
  refine aw_ald5 dL_flight_0 ?_
  refine aw_iconst dL_flight_2 ?_
  refine aw_ald0 dL_flight_3 ?_
  refine aw_ild1 dL_flight_4 ?_
  refine aw_ild2 dL_flight_5 ?_
  refine aw_ild3 dL_flight_6 ?_
  refine aw_ild4 dL_flight_7 ?_
  refine aw_callVc (As := [hb_i a, hb_i b, hb_i c, hb_i d]) (rest := [hb_i 0, hb_r 76]) (ci := 8) [⟨0, 14, 17, 13⟩] ⟨0, 14, 21, 15⟩ [] dL_flight_9 hM (by rfl) rfl hbY_X8_flight hbm_L_7 hbi_X8_flight hbe_X8_X8_flight (by decide) ⟨by decide, by decide⟩ (by decide) (by decide) (hb_nwi (by intro p hp; simp at hp <;> omega)) rfl (fun z hz => by rw [List.mem_singleton.mp hz]; exact Or.inr ⟨by decide, "java/lang/IllegalArgumentException", hbc_L_13, fun U hU => hU.2.2.2.2.2.1⟩) (by decide) (by decide) hbc_L_15 (fun U hU => hU.2.2.2.2.1) ?_
  refine aw_ux dL_flight_21 (by decide) (Nat.le_of_ble_eq_true rfl) ?_
  refine aw_iconst dL_flight_23 ?_
  exact aw_iret dL_flight_24 rfl rfl rfl rfl (by decide) (by decide)
theorem hbYH_put : hb_YH yL_put cL_put 7 (some .int) [(0, 14, 17, 13), (0, 14, 21, 15)] 6 := ⟨hb_ws_of (List.mem_of_getElem? (i := 753) (by decide +kernel)) (by decide +kernel), hb_ws_of (List.mem_of_getElem? (i := 55) (by decide +kernel)) (by decide +kernel), by decide, by decide, by decide +kernel⟩
theorem c_LputY {l : Launch} {G G1 : hb_G} {F F1 : hb_F} {na na1 : Nat} {a b c d v : Int} (hM : hb_M l yX8_put cX8_put 6 (some .int) 7 1 9 [hb_r 0, hb_i a, hb_i b, hb_i c, hb_i d] (hb_w G F na) (77 + na) (.inl (some (hb_i v))) (hb_w G1 F1 na1) (77 + na1)) (hv : hb_in v) : hb_MH l yL_put cL_put 7 (some .int) [(0, 14, 17, 13), (0, 14, 21, 15)] 8 1 9 [hb_r 0, hb_i a, hb_i b, hb_i c, hb_i d, hb_r 76] (hb_w G F na) (77 + na) (.inl (some (hb_i 0))) (hb_w (hb_u2 G1 76 0 v) F1 na1) (77 + na1) := by
  refine hb_MH_in rfl rfl (by decide) rfl (Nat.le_of_ble_eq_true rfl) ?_
  intro E z0 σ0
  refine aw_ald5 dL_put_0 ?_
  refine aw_iconst dL_put_2 ?_
  refine aw_ald0 dL_put_3 ?_
  refine aw_ild1 dL_put_4 ?_
  refine aw_ild2 dL_put_5 ?_
  refine aw_ild3 dL_put_6 ?_
  refine aw_ild4 dL_put_7 ?_
  refine aw_callV (As := [hb_i a, hb_i b, hb_i c, hb_i d]) (rest := [hb_i 0, hb_r 76]) (ci := 8) dL_put_9 hM (by rfl) rfl hbY_X8_put hbm_L_17 hbi_X8_put hbe_X8_X8_put (by decide) ⟨by decide, by decide⟩ (by decide) (by decide) (hb_nwi (by intro p hp; simp at hp <;> omega)) (hb_nwi (by intro p hp; simp at hp <;> omega)) ?_
  refine aw_i2l dL_put_12 hv ?_
  refine aw_lastw dL_put_13 (fun _ => rfl) rfl (by decide) (by decide) ?_
  refine aw_goto dL_put_14 (tg := 25) (by decide) ?_
  refine aw_iconst dL_put_25 ?_
  exact aw_iret dL_put_26 rfl rfl rfl rfl (by decide) (by decide)
theorem c_LputR {l : Launch} {G G1 : hb_G} {F F1 : hb_F} {na na1 : Nat} {a b c d : Int} (hM : hb_M l yX8_put cX8_put 6 (some .int) 7 1 6 [hb_r 0, hb_i a, hb_i b, hb_i c, hb_i d] (hb_w G F na) (77 + na) (.inr "java/lang/IllegalArgumentException") (hb_w G1 F1 na1) (77 + na1)) : hb_MH l yL_put cL_put 7 (some .int) [(0, 14, 17, 13), (0, 14, 21, 15)] 8 1 6 [hb_r 0, hb_i a, hb_i b, hb_i c, hb_i d, hb_r 76] (hb_w G F na) (77 + na) (.inl (some (hb_i 1))) (hb_w G1 F1 na1) (77 + na1) := by
  refine hb_MH_in rfl rfl (by decide) rfl (Nat.le_of_ble_eq_true rfl) ?_
  intro E z0 σ0
  refine aw_ald5 dL_put_0 ?_
  refine aw_iconst dL_put_2 ?_
  refine aw_ald0 dL_put_3 ?_
  refine aw_ild1 dL_put_4 ?_
  refine aw_ild2 dL_put_5 ?_
  refine aw_ild3 dL_put_6 ?_
  refine aw_ild4 dL_put_7 ?_
  refine aw_callVc (As := [hb_i a, hb_i b, hb_i c, hb_i d]) (rest := [hb_i 0, hb_r 76]) (ci := 8) [] ⟨0, 14, 17, 13⟩ [⟨0, 14, 21, 15⟩] dL_put_9 hM (by rfl) rfl hbY_X8_put hbm_L_17 hbi_X8_put hbe_X8_X8_put (by decide) ⟨by decide, by decide⟩ (by decide) (by decide) (hb_nwi (by intro p hp; simp at hp <;> omega)) rfl (fun z hz => nomatch hz) (by decide) (by decide) hbc_L_13 (fun U hU => hU.2.2.2.1) ?_
  refine aw_ux dL_put_17 (by decide) (Nat.le_of_ble_eq_true rfl) ?_
  refine aw_iconst dL_put_19 ?_
  exact aw_iret dL_put_20 rfl rfl rfl rfl (by decide) (by decide)
theorem c_LputX {l : Launch} {G G1 : hb_G} {F F1 : hb_F} {na na1 : Nat} {a b c d : Int} (hM : hb_M l yX8_put cX8_put 6 (some .int) 7 2 15 [hb_r 0, hb_i a, hb_i b, hb_i c, hb_i d] (hb_w G F na) (77 + na) (.inr "java/lang/IllegalStateException") (hb_w G1 F1 na1) (77 + na1)) : hb_MH l yL_put cL_put 7 (some .int) [(0, 14, 17, 13), (0, 14, 21, 15)] 8 2 15 [hb_r 0, hb_i a, hb_i b, hb_i c, hb_i d, hb_r 76] (hb_w G F na) (77 + na) (.inl (some (hb_i 2))) (hb_w G1 F1 na1) (77 + na1) := by
  refine hb_MH_in rfl rfl (by decide) rfl (Nat.le_of_ble_eq_true rfl) ?_
  intro E z0 σ0
  refine aw_ald5 dL_put_0 ?_
  refine aw_iconst dL_put_2 ?_
  refine aw_ald0 dL_put_3 ?_
  refine aw_ild1 dL_put_4 ?_
  refine aw_ild2 dL_put_5 ?_
  refine aw_ild3 dL_put_6 ?_
  refine aw_ild4 dL_put_7 ?_
  refine aw_callVc (As := [hb_i a, hb_i b, hb_i c, hb_i d]) (rest := [hb_i 0, hb_r 76]) (ci := 8) [⟨0, 14, 17, 13⟩] ⟨0, 14, 21, 15⟩ [] dL_put_9 hM (by rfl) rfl hbY_X8_put hbm_L_17 hbi_X8_put hbe_X8_X8_put (by decide) ⟨by decide, by decide⟩ (by decide) (by decide) (hb_nwi (by intro p hp; simp at hp <;> omega)) rfl (fun z hz => by rw [List.mem_singleton.mp hz]; exact Or.inr ⟨by decide, "java/lang/IllegalArgumentException", hbc_L_13, fun U hU => hU.2.2.2.2.2.1⟩) (by decide) (by decide) hbc_L_15 (fun U hU => hU.2.2.2.2.1) ?_
  refine aw_ux dL_put_21 (by decide) (Nat.le_of_ble_eq_true rfl) ?_
  refine aw_iconst dL_put_23 ?_
  exact aw_iret dL_put_24 rfl rfl rfl rfl (by decide) (by decide)
theorem hbYH_take : hb_YH yL_take cL_take 5 (some .int) [(0, 10, 13, 13), (0, 10, 17, 15)] 4 := ⟨hb_ws_of (List.mem_of_getElem? (i := 760) (by decide +kernel)) (by decide +kernel), hb_ws_of (List.mem_of_getElem? (i := 55) (by decide +kernel)) (by decide +kernel), by decide, by decide, by decide +kernel⟩
theorem c_LtakeY {l : Launch} {G G1 : hb_G} {F F1 : hb_F} {na na1 : Nat} {a b v : Int} (hM : hb_M l yX8_take cX8_take 3 (some .int) 7 1 9 [hb_r 0, hb_i a, hb_i b] (hb_w G F na) (77 + na) (.inl (some (hb_i v))) (hb_w G1 F1 na1) (77 + na1)) (hv : hb_in v) : hb_MH l yL_take cL_take 5 (some .int) [(0, 10, 13, 13), (0, 10, 17, 15)] 8 1 9 [hb_r 0, hb_i a, hb_i b, hb_r 76] (hb_w G F na) (77 + na) (.inl (some (hb_i 0))) (hb_w (hb_u2 G1 76 0 v) F1 na1) (77 + na1) := by
  refine hb_MH_in rfl rfl (by decide) rfl (Nat.le_of_ble_eq_true rfl) ?_
  intro E z0 σ0
  refine aw_ald3 dL_take_0 ?_
  refine aw_iconst dL_take_1 ?_
  refine aw_ald0 dL_take_2 ?_
  refine aw_ild1 dL_take_3 ?_
  refine aw_ild2 dL_take_4 ?_
  refine aw_callV (As := [hb_i a, hb_i b]) (rest := [hb_i 0, hb_r 76]) (ci := 8) dL_take_5 hM (by rfl) rfl hbY_X8_take hbm_L_20 hbi_X8_take hbe_X8_X8_take (by decide) ⟨by decide, by decide⟩ (by decide) (by decide) (hb_nwi (by intro p hp; simp at hp <;> omega)) (hb_nwi (by intro p hp; simp at hp <;> omega)) ?_
  refine aw_i2l dL_take_8 hv ?_
  refine aw_lastw dL_take_9 (fun _ => rfl) rfl (by decide) (by decide) ?_
  refine aw_goto dL_take_10 (tg := 21) (by decide) ?_
  refine aw_iconst dL_take_21 ?_
  exact aw_iret dL_take_22 rfl rfl rfl rfl (by decide) (by decide)
theorem c_LtakeR {l : Launch} {G G1 : hb_G} {F F1 : hb_F} {na na1 : Nat} {a b : Int} (hM : hb_M l yX8_take cX8_take 3 (some .int) 7 1 6 [hb_r 0, hb_i a, hb_i b] (hb_w G F na) (77 + na) (.inr "java/lang/IllegalArgumentException") (hb_w G1 F1 na1) (77 + na1)) : hb_MH l yL_take cL_take 5 (some .int) [(0, 10, 13, 13), (0, 10, 17, 15)] 8 1 6 [hb_r 0, hb_i a, hb_i b, hb_r 76] (hb_w G F na) (77 + na) (.inl (some (hb_i 1))) (hb_w G1 F1 na1) (77 + na1) := by
  refine hb_MH_in rfl rfl (by decide) rfl (Nat.le_of_ble_eq_true rfl) ?_
  intro E z0 σ0
  refine aw_ald3 dL_take_0 ?_
  refine aw_iconst dL_take_1 ?_
  refine aw_ald0 dL_take_2 ?_
  refine aw_ild1 dL_take_3 ?_
  refine aw_ild2 dL_take_4 ?_
  refine aw_callVc (As := [hb_i a, hb_i b]) (rest := [hb_i 0, hb_r 76]) (ci := 8) [] ⟨0, 10, 13, 13⟩ [⟨0, 10, 17, 15⟩] dL_take_5 hM (by rfl) rfl hbY_X8_take hbm_L_20 hbi_X8_take hbe_X8_X8_take (by decide) ⟨by decide, by decide⟩ (by decide) (by decide) (hb_nwi (by intro p hp; simp at hp <;> omega)) rfl (fun z hz => nomatch hz) (by decide) (by decide) hbc_L_13 (fun U hU => hU.2.2.2.1) ?_
  refine aw_ux dL_take_13 (by decide) (Nat.le_of_ble_eq_true rfl) ?_
  refine aw_iconst dL_take_15 ?_
  exact aw_iret dL_take_16 rfl rfl rfl rfl (by decide) (by decide)
theorem c_LtakeX {l : Launch} {G G1 : hb_G} {F F1 : hb_F} {na na1 : Nat} {a b : Int} (hM : hb_M l yX8_take cX8_take 3 (some .int) 7 2 15 [hb_r 0, hb_i a, hb_i b] (hb_w G F na) (77 + na) (.inr "java/lang/IllegalStateException") (hb_w G1 F1 na1) (77 + na1)) : hb_MH l yL_take cL_take 5 (some .int) [(0, 10, 13, 13), (0, 10, 17, 15)] 8 2 15 [hb_r 0, hb_i a, hb_i b, hb_r 76] (hb_w G F na) (77 + na) (.inl (some (hb_i 2))) (hb_w G1 F1 na1) (77 + na1) := by
  refine hb_MH_in rfl rfl (by decide) rfl (Nat.le_of_ble_eq_true rfl) ?_
  intro E z0 σ0
  refine aw_ald3 dL_take_0 ?_
  refine aw_iconst dL_take_1 ?_
  refine aw_ald0 dL_take_2 ?_
  refine aw_ild1 dL_take_3 ?_
  refine aw_ild2 dL_take_4 ?_
  refine aw_callVc (As := [hb_i a, hb_i b]) (rest := [hb_i 0, hb_r 76]) (ci := 8) [⟨0, 10, 13, 13⟩] ⟨0, 10, 17, 15⟩ [] dL_take_5 hM (by rfl) rfl hbY_X8_take hbm_L_20 hbi_X8_take hbe_X8_X8_take (by decide) ⟨by decide, by decide⟩ (by decide) (by decide) (hb_nwi (by intro p hp; simp at hp <;> omega)) rfl (fun z hz => by rw [List.mem_singleton.mp hz]; exact Or.inr ⟨by decide, "java/lang/IllegalArgumentException", hbc_L_13, fun U hU => hU.2.2.2.2.2.1⟩) (by decide) (by decide) hbc_L_15 (fun U hU => hU.2.2.2.2.1) ?_
  refine aw_ux dL_take_17 (by decide) (Nat.le_of_ble_eq_true rfl) ?_
  refine aw_iconst dL_take_19 ?_
  exact aw_iret dL_take_20 rfl rfl rfl rfl (by decide) (by decide)
theorem hbYH_done : hb_YH yL_done cL_done 6 (some .int) [(0, 12, 15, 13), (0, 12, 19, 15)] 5 := ⟨hb_ws_of (List.mem_of_getElem? (i := 767) (by decide +kernel)) (by decide +kernel), hb_ws_of (List.mem_of_getElem? (i := 55) (by decide +kernel)) (by decide +kernel), by decide, by decide, by decide +kernel⟩
theorem c_LdoneY {l : Launch} {G G1 : hb_G} {F F1 : hb_F} {na na1 : Nat} {a b c v : Int} (hM : hb_M l yX8_done cX8_done 5 (some .int) 7 1 9 [hb_r 0, hb_i a, hb_i b, hb_i c] (hb_w G F na) (77 + na) (.inl (some (hb_i v))) (hb_w G1 F1 na1) (77 + na1)) (hv : hb_in v) : hb_MH l yL_done cL_done 6 (some .int) [(0, 12, 15, 13), (0, 12, 19, 15)] 8 1 9 [hb_r 0, hb_i a, hb_i b, hb_i c, hb_r 76] (hb_w G F na) (77 + na) (.inl (some (hb_i 0))) (hb_w (hb_u2 G1 76 0 v) F1 na1) (77 + na1) := by
  refine hb_MH_in rfl rfl (by decide) rfl (Nat.le_of_ble_eq_true rfl) ?_
  intro E z0 σ0
  refine aw_ald4 dL_done_0 ?_
  refine aw_iconst dL_done_2 ?_
  refine aw_ald0 dL_done_3 ?_
  refine aw_ild1 dL_done_4 ?_
  refine aw_ild2 dL_done_5 ?_
  refine aw_ild3 dL_done_6 ?_
  refine aw_callV (As := [hb_i a, hb_i b, hb_i c]) (rest := [hb_i 0, hb_r 76]) (ci := 8) dL_done_7 hM (by rfl) rfl hbY_X8_done hbm_L_24 hbi_X8_done hbe_X8_X8_done (by decide) ⟨by decide, by decide⟩ (by decide) (by decide) (hb_nwi (by intro p hp; simp at hp <;> omega)) (hb_nwi (by intro p hp; simp at hp <;> omega)) ?_
  refine aw_i2l dL_done_10 hv ?_
  refine aw_lastw dL_done_11 (fun _ => rfl) rfl (by decide) (by decide) ?_
  refine aw_goto dL_done_12 (tg := 23) (by decide) ?_
  refine aw_iconst dL_done_23 ?_
  exact aw_iret dL_done_24 rfl rfl rfl rfl (by decide) (by decide)
theorem c_LdoneR {l : Launch} {G G1 : hb_G} {F F1 : hb_F} {na na1 : Nat} {a b c : Int} (hM : hb_M l yX8_done cX8_done 5 (some .int) 7 1 6 [hb_r 0, hb_i a, hb_i b, hb_i c] (hb_w G F na) (77 + na) (.inr "java/lang/IllegalArgumentException") (hb_w G1 F1 na1) (77 + na1)) : hb_MH l yL_done cL_done 6 (some .int) [(0, 12, 15, 13), (0, 12, 19, 15)] 8 1 6 [hb_r 0, hb_i a, hb_i b, hb_i c, hb_r 76] (hb_w G F na) (77 + na) (.inl (some (hb_i 1))) (hb_w G1 F1 na1) (77 + na1) := by
  refine hb_MH_in rfl rfl (by decide) rfl (Nat.le_of_ble_eq_true rfl) ?_
  intro E z0 σ0
  refine aw_ald4 dL_done_0 ?_
  refine aw_iconst dL_done_2 ?_
  refine aw_ald0 dL_done_3 ?_
  refine aw_ild1 dL_done_4 ?_
  refine aw_ild2 dL_done_5 ?_
  refine aw_ild3 dL_done_6 ?_
  refine aw_callVc (As := [hb_i a, hb_i b, hb_i c]) (rest := [hb_i 0, hb_r 76]) (ci := 8) [] ⟨0, 12, 15, 13⟩ [⟨0, 12, 19, 15⟩] dL_done_7 hM (by rfl) rfl hbY_X8_done hbm_L_24 hbi_X8_done hbe_X8_X8_done (by decide) ⟨by decide, by decide⟩ (by decide) (by decide) (hb_nwi (by intro p hp; simp at hp <;> omega)) rfl (fun z hz => nomatch hz) (by decide) (by decide) hbc_L_13 (fun U hU => hU.2.2.2.1) ?_
  refine aw_ux dL_done_15 (by decide) (Nat.le_of_ble_eq_true rfl) ?_
  refine aw_iconst dL_done_17 ?_
  exact aw_iret dL_done_18 rfl rfl rfl rfl (by decide) (by decide)
theorem c_LdoneX {l : Launch} {G G1 : hb_G} {F F1 : hb_F} {na na1 : Nat} {a b c : Int} (hM : hb_M l yX8_done cX8_done 5 (some .int) 7 2 15 [hb_r 0, hb_i a, hb_i b, hb_i c] (hb_w G F na) (77 + na) (.inr "java/lang/IllegalStateException") (hb_w G1 F1 na1) (77 + na1)) : hb_MH l yL_done cL_done 6 (some .int) [(0, 12, 15, 13), (0, 12, 19, 15)] 8 2 15 [hb_r 0, hb_i a, hb_i b, hb_i c, hb_r 76] (hb_w G F na) (77 + na) (.inl (some (hb_i 2))) (hb_w G1 F1 na1) (77 + na1) := by
  refine hb_MH_in rfl rfl (by decide) rfl (Nat.le_of_ble_eq_true rfl) ?_
  intro E z0 σ0
  refine aw_ald4 dL_done_0 ?_
  refine aw_iconst dL_done_2 ?_
  refine aw_ald0 dL_done_3 ?_
  refine aw_ild1 dL_done_4 ?_
  refine aw_ild2 dL_done_5 ?_
  refine aw_ild3 dL_done_6 ?_
  refine aw_callVc (As := [hb_i a, hb_i b, hb_i c]) (rest := [hb_i 0, hb_r 76]) (ci := 8) [⟨0, 12, 15, 13⟩] ⟨0, 12, 19, 15⟩ [] dL_done_7 hM (by rfl) rfl hbY_X8_done hbm_L_24 hbi_X8_done hbe_X8_X8_done (by decide) ⟨by decide, by decide⟩ (by decide) (by decide) (hb_nwi (by intro p hp; simp at hp <;> omega)) rfl (fun z hz => by rw [List.mem_singleton.mp hz]; exact Or.inr ⟨by decide, "java/lang/IllegalArgumentException", hbc_L_13, fun U hU => hU.2.2.2.2.2.1⟩) (by decide) (by decide) hbc_L_15 (fun U hU => hU.2.2.2.2.1) ?_
  refine aw_ux dL_done_19 (by decide) (Nat.le_of_ble_eq_true rfl) ?_
  refine aw_iconst dL_done_21 ?_
  exact aw_iret dL_done_22 rfl rfl rfl rfl (by decide) (by decide)
theorem hbYH_concede : hb_YH yL_concede cL_concede 8 (some .int) [(0, 16, 19, 13), (0, 16, 23, 15)] 7 := ⟨hb_ws_of (List.mem_of_getElem? (i := 774) (by decide +kernel)) (by decide +kernel), hb_ws_of (List.mem_of_getElem? (i := 55) (by decide +kernel)) (by decide +kernel), by decide, by decide, by decide +kernel⟩
theorem c_LconcedeY {l : Launch} {G G1 : hb_G} {F F1 : hb_F} {na na1 : Nat} {a b c d f v : Int} (hM : hb_M l yX8_concede cX8_concede 7 (some .int) 7 1 9 [hb_r 0, hb_i a, hb_i b, hb_i c, hb_i d, hb_i f] (hb_w G F na) (77 + na) (.inl (some (hb_i v))) (hb_w G1 F1 na1) (77 + na1)) (hv : hb_in v) : hb_MH l yL_concede cL_concede 8 (some .int) [(0, 16, 19, 13), (0, 16, 23, 15)] 8 1 9 [hb_r 0, hb_i a, hb_i b, hb_i c, hb_i d, hb_i f, hb_r 76] (hb_w G F na) (77 + na) (.inl (some (hb_i 0))) (hb_w (hb_u2 G1 76 0 v) F1 na1) (77 + na1) := by
  refine hb_MH_in rfl rfl (by decide) rfl (Nat.le_of_ble_eq_true rfl) ?_
  intro E z0 σ0
  refine aw_ald6 dL_concede_0 ?_
  refine aw_iconst dL_concede_2 ?_
  refine aw_ald0 dL_concede_3 ?_
  refine aw_ild1 dL_concede_4 ?_
  refine aw_ild2 dL_concede_5 ?_
  refine aw_ild3 dL_concede_6 ?_
  refine aw_ild4 dL_concede_7 ?_
  refine aw_ild5 dL_concede_9 ?_
  refine aw_callV (As := [hb_i a, hb_i b, hb_i c, hb_i d, hb_i f]) (rest := [hb_i 0, hb_r 76]) (ci := 8) dL_concede_11 hM (by rfl) rfl hbY_X8_concede hbm_L_28 hbi_X8_concede hbe_X8_X8_concede (by decide) ⟨by decide, by decide⟩ (by decide) (by decide) (hb_nwi (by intro p hp; simp at hp <;> omega)) (hb_nwi (by intro p hp; simp at hp <;> omega)) ?_
  refine aw_i2l dL_concede_14 hv ?_
  refine aw_lastw dL_concede_15 (fun _ => rfl) rfl (by decide) (by decide) ?_
  refine aw_goto dL_concede_16 (tg := 27) (by decide) ?_
  refine aw_iconst dL_concede_27 ?_
  exact aw_iret dL_concede_28 rfl rfl rfl rfl (by decide) (by decide)
theorem c_LconcedeR {l : Launch} {G G1 : hb_G} {F F1 : hb_F} {na na1 : Nat} {a b c d f : Int} (hM : hb_M l yX8_concede cX8_concede 7 (some .int) 7 1 6 [hb_r 0, hb_i a, hb_i b, hb_i c, hb_i d, hb_i f] (hb_w G F na) (77 + na) (.inr "java/lang/IllegalArgumentException") (hb_w G1 F1 na1) (77 + na1)) : hb_MH l yL_concede cL_concede 8 (some .int) [(0, 16, 19, 13), (0, 16, 23, 15)] 8 1 6 [hb_r 0, hb_i a, hb_i b, hb_i c, hb_i d, hb_i f, hb_r 76] (hb_w G F na) (77 + na) (.inl (some (hb_i 1))) (hb_w G1 F1 na1) (77 + na1) := by
  refine hb_MH_in rfl rfl (by decide) rfl (Nat.le_of_ble_eq_true rfl) ?_
  intro E z0 σ0
  refine aw_ald6 dL_concede_0 ?_
  refine aw_iconst dL_concede_2 ?_
  refine aw_ald0 dL_concede_3 ?_
  refine aw_ild1 dL_concede_4 ?_
  refine aw_ild2 dL_concede_5 ?_
  refine aw_ild3 dL_concede_6 ?_
  refine aw_ild4 dL_concede_7 ?_
  refine aw_ild5 dL_concede_9 ?_
  refine aw_callVc (As := [hb_i a, hb_i b, hb_i c, hb_i d, hb_i f]) (rest := [hb_i 0, hb_r 76]) (ci := 8) [] ⟨0, 16, 19, 13⟩ [⟨0, 16, 23, 15⟩] dL_concede_11 hM (by rfl) rfl hbY_X8_concede hbm_L_28 hbi_X8_concede hbe_X8_X8_concede (by decide) ⟨by decide, by decide⟩ (by decide) (by decide) (hb_nwi (by intro p hp; simp at hp <;> omega)) rfl (fun z hz => nomatch hz) (by decide) (by decide) hbc_L_13 (fun U hU => hU.2.2.2.1) ?_
  refine aw_ux dL_concede_19 (by decide) (Nat.le_of_ble_eq_true rfl) ?_
  refine aw_iconst dL_concede_21 ?_
  exact aw_iret dL_concede_22 rfl rfl rfl rfl (by decide) (by decide)
theorem c_LconcedeX {l : Launch} {G G1 : hb_G} {F F1 : hb_F} {na na1 : Nat} {a b c d f : Int} (hM : hb_M l yX8_concede cX8_concede 7 (some .int) 7 2 15 [hb_r 0, hb_i a, hb_i b, hb_i c, hb_i d, hb_i f] (hb_w G F na) (77 + na) (.inr "java/lang/IllegalStateException") (hb_w G1 F1 na1) (77 + na1)) : hb_MH l yL_concede cL_concede 8 (some .int) [(0, 16, 19, 13), (0, 16, 23, 15)] 8 2 15 [hb_r 0, hb_i a, hb_i b, hb_i c, hb_i d, hb_i f, hb_r 76] (hb_w G F na) (77 + na) (.inl (some (hb_i 2))) (hb_w G1 F1 na1) (77 + na1) := by
  refine hb_MH_in rfl rfl (by decide) rfl (Nat.le_of_ble_eq_true rfl) ?_
  intro E z0 σ0
  refine aw_ald6 dL_concede_0 ?_
  refine aw_iconst dL_concede_2 ?_
  refine aw_ald0 dL_concede_3 ?_
  refine aw_ild1 dL_concede_4 ?_
  refine aw_ild2 dL_concede_5 ?_
  refine aw_ild3 dL_concede_6 ?_
  refine aw_ild4 dL_concede_7 ?_
  refine aw_ild5 dL_concede_9 ?_
  refine aw_callVc (As := [hb_i a, hb_i b, hb_i c, hb_i d, hb_i f]) (rest := [hb_i 0, hb_r 76]) (ci := 8) [⟨0, 16, 19, 13⟩] ⟨0, 16, 23, 15⟩ [] dL_concede_11 hM (by rfl) rfl hbY_X8_concede hbm_L_28 hbi_X8_concede hbe_X8_X8_concede (by decide) ⟨by decide, by decide⟩ (by decide) (by decide) (hb_nwi (by intro p hp; simp at hp <;> omega)) rfl (fun z hz => by rw [List.mem_singleton.mp hz]; exact Or.inr ⟨by decide, "java/lang/IllegalArgumentException", hbc_L_13, fun U hU => hU.2.2.2.2.2.1⟩) (by decide) (by decide) hbc_L_15 (fun U hU => hU.2.2.2.2.1) ?_
  refine aw_ux dL_concede_23 (by decide) (Nat.le_of_ble_eq_true rfl) ?_
  refine aw_iconst dL_concede_25 ?_
  exact aw_iret dL_concede_26 rfl rfl rfl rfl (by decide) (by decide)
theorem hbYH_rebuild : hb_YH yL_rebuild cL_rebuild 6 (some .int) [(0, 12, 15, 13), (0, 12, 19, 15)] 5 := ⟨hb_ws_of (List.mem_of_getElem? (i := 781) (by decide +kernel)) (by decide +kernel), hb_ws_of (List.mem_of_getElem? (i := 55) (by decide +kernel)) (by decide +kernel), by decide, by decide, by decide +kernel⟩
theorem c_LrebuildY {l : Launch} {G G1 : hb_G} {F F1 : hb_F} {na na1 : Nat} {a b c v : Int} (hM : hb_M l yX8_rebuild cX8_rebuild 5 (some .int) 7 1 9 [hb_r 0, hb_i a, hb_i b, hb_i c] (hb_w G F na) (77 + na) (.inl (some (hb_i v))) (hb_w G1 F1 na1) (77 + na1)) (hv : hb_in v) : hb_MH l yL_rebuild cL_rebuild 6 (some .int) [(0, 12, 15, 13), (0, 12, 19, 15)] 8 1 9 [hb_r 0, hb_i a, hb_i b, hb_i c, hb_r 76] (hb_w G F na) (77 + na) (.inl (some (hb_i 0))) (hb_w (hb_u2 G1 76 0 v) F1 na1) (77 + na1) := by
  refine hb_MH_in rfl rfl (by decide) rfl (Nat.le_of_ble_eq_true rfl) ?_
  intro E z0 σ0
  refine aw_ald4 dL_rebuild_0 ?_
  refine aw_iconst dL_rebuild_2 ?_
  refine aw_ald0 dL_rebuild_3 ?_
  refine aw_ild1 dL_rebuild_4 ?_
  refine aw_ild2 dL_rebuild_5 ?_
  refine aw_ild3 dL_rebuild_6 ?_
  refine aw_callV (As := [hb_i a, hb_i b, hb_i c]) (rest := [hb_i 0, hb_r 76]) (ci := 8) dL_rebuild_7 hM (by rfl) rfl hbY_X8_rebuild hbm_L_32 hbi_X8_rebuild hbe_X8_X8_rebuild (by decide) ⟨by decide, by decide⟩ (by decide) (by decide) (hb_nwi (by intro p hp; simp at hp <;> omega)) (hb_nwi (by intro p hp; simp at hp <;> omega)) ?_
  refine aw_i2l dL_rebuild_10 hv ?_
  refine aw_lastw dL_rebuild_11 (fun _ => rfl) rfl (by decide) (by decide) ?_
  refine aw_goto dL_rebuild_12 (tg := 23) (by decide) ?_
  refine aw_iconst dL_rebuild_23 ?_
  exact aw_iret dL_rebuild_24 rfl rfl rfl rfl (by decide) (by decide)
theorem c_LrebuildR {l : Launch} {G G1 : hb_G} {F F1 : hb_F} {na na1 : Nat} {a b c : Int} (hM : hb_M l yX8_rebuild cX8_rebuild 5 (some .int) 7 1 6 [hb_r 0, hb_i a, hb_i b, hb_i c] (hb_w G F na) (77 + na) (.inr "java/lang/IllegalArgumentException") (hb_w G1 F1 na1) (77 + na1)) : hb_MH l yL_rebuild cL_rebuild 6 (some .int) [(0, 12, 15, 13), (0, 12, 19, 15)] 8 1 6 [hb_r 0, hb_i a, hb_i b, hb_i c, hb_r 76] (hb_w G F na) (77 + na) (.inl (some (hb_i 1))) (hb_w G1 F1 na1) (77 + na1) := by
  refine hb_MH_in rfl rfl (by decide) rfl (Nat.le_of_ble_eq_true rfl) ?_
  intro E z0 σ0
  refine aw_ald4 dL_rebuild_0 ?_
  refine aw_iconst dL_rebuild_2 ?_
  refine aw_ald0 dL_rebuild_3 ?_
  refine aw_ild1 dL_rebuild_4 ?_
  refine aw_ild2 dL_rebuild_5 ?_
  refine aw_ild3 dL_rebuild_6 ?_
  refine aw_callVc (As := [hb_i a, hb_i b, hb_i c]) (rest := [hb_i 0, hb_r 76]) (ci := 8) [] ⟨0, 12, 15, 13⟩ [⟨0, 12, 19, 15⟩] dL_rebuild_7 hM (by rfl) rfl hbY_X8_rebuild hbm_L_32 hbi_X8_rebuild hbe_X8_X8_rebuild (by decide) ⟨by decide, by decide⟩ (by decide) (by decide) (hb_nwi (by intro p hp; simp at hp <;> omega)) rfl (fun z hz => nomatch hz) (by decide) (by decide) hbc_L_13 (fun U hU => hU.2.2.2.1) ?_
  refine aw_ux dL_rebuild_15 (by decide) (Nat.le_of_ble_eq_true rfl) ?_
  refine aw_iconst dL_rebuild_17 ?_
  exact aw_iret dL_rebuild_18 rfl rfl rfl rfl (by decide) (by decide)
theorem c_LrebuildX {l : Launch} {G G1 : hb_G} {F F1 : hb_F} {na na1 : Nat} {a b c : Int} (hM : hb_M l yX8_rebuild cX8_rebuild 5 (some .int) 7 2 15 [hb_r 0, hb_i a, hb_i b, hb_i c] (hb_w G F na) (77 + na) (.inr "java/lang/IllegalStateException") (hb_w G1 F1 na1) (77 + na1)) : hb_MH l yL_rebuild cL_rebuild 6 (some .int) [(0, 12, 15, 13), (0, 12, 19, 15)] 8 2 15 [hb_r 0, hb_i a, hb_i b, hb_i c, hb_r 76] (hb_w G F na) (77 + na) (.inl (some (hb_i 2))) (hb_w G1 F1 na1) (77 + na1) := by
  refine hb_MH_in rfl rfl (by decide) rfl (Nat.le_of_ble_eq_true rfl) ?_
  intro E z0 σ0
  refine aw_ald4 dL_rebuild_0 ?_
  refine aw_iconst dL_rebuild_2 ?_
  refine aw_ald0 dL_rebuild_3 ?_
  refine aw_ild1 dL_rebuild_4 ?_
  refine aw_ild2 dL_rebuild_5 ?_
  refine aw_ild3 dL_rebuild_6 ?_
  refine aw_callVc (As := [hb_i a, hb_i b, hb_i c]) (rest := [hb_i 0, hb_r 76]) (ci := 8) [⟨0, 12, 15, 13⟩] ⟨0, 12, 19, 15⟩ [] dL_rebuild_7 hM (by rfl) rfl hbY_X8_rebuild hbm_L_32 hbi_X8_rebuild hbe_X8_X8_rebuild (by decide) ⟨by decide, by decide⟩ (by decide) (by decide) (hb_nwi (by intro p hp; simp at hp <;> omega)) rfl (fun z hz => by rw [List.mem_singleton.mp hz]; exact Or.inr ⟨by decide, "java/lang/IllegalArgumentException", hbc_L_13, fun U hU => hU.2.2.2.2.2.1⟩) (by decide) (by decide) hbc_L_15 (fun U hU => hU.2.2.2.2.1) ?_
  refine aw_ux dL_rebuild_19 (by decide) (Nat.le_of_ble_eq_true rfl) ?_
  refine aw_iconst dL_rebuild_21 ?_
  exact aw_iret dL_rebuild_22 rfl rfl rfl rfl (by decide) (by decide)
theorem hbYH_strike : hb_YH yL_strike cL_strike 3 (some .int) [(0, 5, 8, 13), (0, 5, 11, 15)] 2 := ⟨hb_ws_of (List.mem_of_getElem? (i := 789) (by decide +kernel)) (by decide +kernel), hb_ws_of (List.mem_of_getElem? (i := 55) (by decide +kernel)) (by decide +kernel), by decide, by decide, by decide +kernel⟩
theorem c_LstrikeY {l : Launch} {G G1 : hb_G} {F F1 : hb_F} {na na1 : Nat} {a : Int} (hM : hb_M l yX8_strike cX8_strike 2 none 7 0 0 [hb_r 0, hb_i a] (hb_w G F na) (77 + na) (.inl none) (hb_w G1 F1 na1) (77 + na1)) : hb_MH l yL_strike cL_strike 3 (some .int) [(0, 5, 8, 13), (0, 5, 11, 15)] 8 0 0 [hb_r 0, hb_i a] (hb_w G F na) (77 + na) (.inl (some (hb_i 0))) (hb_w G1 F1 na1) (77 + na1) := by
  refine hb_MH_in rfl rfl (by decide) rfl (Nat.le_of_ble_eq_true rfl) ?_
  intro E z0 σ0
  refine aw_ald0 dL_strike_0 ?_
  refine aw_ild1 dL_strike_1 ?_
  refine aw_callV (As := [hb_i a]) (rest := []) (ci := 8) dL_strike_2 hM (by rfl) rfl hbY_X8_strike hbm_L_35 hbi_X8_strike hbe_X8_X8_strike (by decide) ⟨by decide, by decide⟩ (by decide) (by decide) (hb_nwi (by intro p hp; simp at hp <;> omega)) (hb_nwi (by intro p hp; simp at hp <;> omega)) ?_
  refine aw_goto dL_strike_5 (tg := 14) (by decide) ?_
  refine aw_iconst dL_strike_14 ?_
  exact aw_iret dL_strike_15 rfl rfl rfl rfl (by decide) (by decide)
theorem c_LstrikeR {l : Launch} {G G1 : hb_G} {F F1 : hb_F} {na na1 : Nat} {a : Int} (hM : hb_M l yX8_strike cX8_strike 2 none 7 1 6 [hb_r 0, hb_i a] (hb_w G F na) (77 + na) (.inr "java/lang/IllegalArgumentException") (hb_w G1 F1 na1) (77 + na1)) : hb_MH l yL_strike cL_strike 3 (some .int) [(0, 5, 8, 13), (0, 5, 11, 15)] 8 1 6 [hb_r 0, hb_i a] (hb_w G F na) (77 + na) (.inl (some (hb_i 1))) (hb_w G1 F1 na1) (77 + na1) := by
  refine hb_MH_in rfl rfl (by decide) rfl (Nat.le_of_ble_eq_true rfl) ?_
  intro E z0 σ0
  refine aw_ald0 dL_strike_0 ?_
  refine aw_ild1 dL_strike_1 ?_
  refine aw_callVc (As := [hb_i a]) (rest := []) (ci := 8) [] ⟨0, 5, 8, 13⟩ [⟨0, 5, 11, 15⟩] dL_strike_2 hM (by rfl) rfl hbY_X8_strike hbm_L_35 hbi_X8_strike hbe_X8_X8_strike (by decide) ⟨by decide, by decide⟩ (by decide) (by decide) (hb_nwi (by intro p hp; simp at hp <;> omega)) rfl (fun z hz => nomatch hz) (by decide) (by decide) hbc_L_13 (fun U hU => hU.2.2.2.1) ?_
  refine aw_ux2 dL_strike_8 (by decide) (Nat.le_of_ble_eq_true rfl) ?_
  refine aw_iconst dL_strike_9 ?_
  exact aw_iret dL_strike_10 rfl rfl rfl rfl (by decide) (by decide)
theorem c_LstrikeX {l : Launch} {G G1 : hb_G} {F F1 : hb_F} {na na1 : Nat} {a : Int} (hM : hb_M l yX8_strike cX8_strike 2 none 7 1 6 [hb_r 0, hb_i a] (hb_w G F na) (77 + na) (.inr "java/lang/IllegalStateException") (hb_w G1 F1 na1) (77 + na1)) : hb_MH l yL_strike cL_strike 3 (some .int) [(0, 5, 8, 13), (0, 5, 11, 15)] 8 1 6 [hb_r 0, hb_i a] (hb_w G F na) (77 + na) (.inl (some (hb_i 2))) (hb_w G1 F1 na1) (77 + na1) := by
  refine hb_MH_in rfl rfl (by decide) rfl (Nat.le_of_ble_eq_true rfl) ?_
  intro E z0 σ0
  refine aw_ald0 dL_strike_0 ?_
  refine aw_ild1 dL_strike_1 ?_
  refine aw_callVc (As := [hb_i a]) (rest := []) (ci := 8) [⟨0, 5, 8, 13⟩] ⟨0, 5, 11, 15⟩ [] dL_strike_2 hM (by rfl) rfl hbY_X8_strike hbm_L_35 hbi_X8_strike hbe_X8_X8_strike (by decide) ⟨by decide, by decide⟩ (by decide) (by decide) (hb_nwi (by intro p hp; simp at hp <;> omega)) rfl (fun z hz => by rw [List.mem_singleton.mp hz]; exact Or.inr ⟨by decide, "java/lang/IllegalArgumentException", hbc_L_13, fun U hU => hU.2.2.2.2.2.1⟩) (by decide) (by decide) hbc_L_15 (fun U hU => hU.2.2.2.2.1) ?_
  refine aw_ux2 dL_strike_11 (by decide) (Nat.le_of_ble_eq_true rfl) ?_
  refine aw_iconst dL_strike_12 ?_
  exact aw_iret dL_strike_13 rfl rfl rfl rfl (by decide) (by decide)
