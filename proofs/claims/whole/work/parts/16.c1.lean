set_option maxRecDepth 20000 in
set_option maxHeartbeats 1000000 in
theorem c_isBelow {l : Launch} {G : hb_G} {F : hb_F} {na : Nat} {v b : Int} (hv : hb_in v) (hb : hb_in b) : hb_M l yX8_isBelow cX8_isBelow 2 (some .boolean) 0 0 0 [hb_i v, hb_i b] (hb_w G F na) (77 + na) (.inl (some (hb_i (hb_b (0 ≤ v ∧ v < b))))) (hb_w G F na) (77 + na) := by
  refine hb_M_in rfl rfl (by decide) rfl (Nat.le_of_ble_eq_true rfl) ?_
  intro E z0 σ0
  refine aw_ild0 dX8_isBelow_0 ?_
  refine aw_if_lt (tg := 13) dX8_isBelow_1 (by decide) (by first | exact hG _ _ | (constructor <;> omega)) (fun c1 => ?_) (fun c1 => ?_)
  · skip
    refine aw_iconst dX8_isBelow_13 ?_
    exact aw_zret dX8_isBelow_14 rfl (by first | omega | exact hb_b01 _) (by first | rfl | exact hb_oi1 (by omega) | exact hb_oi0 (by omega)) rfl rfl (by decide) (by decide)
  · skip
    refine aw_ild0 dX8_isBelow_4 ?_
    refine aw_ild1 dX8_isBelow_5 ?_
    refine aw_icmp_ge (tg := 13) dX8_isBelow_6 (by decide) (by first | exact hG _ _ | (constructor <;> omega)) (by first | exact hG _ _ | (constructor <;> omega)) (fun c6 => ?_) (fun c6 => ?_)
    · skip
      refine aw_iconst dX8_isBelow_13 ?_
      exact aw_zret dX8_isBelow_14 rfl (by first | omega | exact hb_b01 _) (by first | rfl | exact hb_oi1 (by omega) | exact hb_oi0 (by omega)) rfl rfl (by decide) (by decide)
    · skip
      refine aw_iconst dX8_isBelow_9 ?_
      refine aw_goto (tg := 14) dX8_isBelow_10 (by decide) ?_
      exact aw_zret dX8_isBelow_14 rfl (by first | omega | exact hb_b01 _) (by first | rfl | exact hb_oi1 (by omega) | exact hb_oi0 (by omega)) rfl rfl (by decide) (by decide)
set_option maxRecDepth 20000 in
set_option maxHeartbeats 1000000 in
theorem c_isUpTo {l : Launch} {G : hb_G} {F : hb_F} {na : Nat} {v b : Int} (hv : hb_in v) (hb : hb_in b) : hb_M l yX8_isUpTo cX8_isUpTo 2 (some .boolean) 0 0 0 [hb_i v, hb_i b] (hb_w G F na) (77 + na) (.inl (some (hb_i (hb_b (0 ≤ v ∧ v ≤ b))))) (hb_w G F na) (77 + na) := by
  refine hb_M_in rfl rfl (by decide) rfl (Nat.le_of_ble_eq_true rfl) ?_
  intro E z0 σ0
  refine aw_ild0 dX8_isUpTo_0 ?_
  refine aw_if_lt (tg := 13) dX8_isUpTo_1 (by decide) (by first | exact hG _ _ | (constructor <;> omega)) (fun c1 => ?_) (fun c1 => ?_)
  · skip
    refine aw_iconst dX8_isUpTo_13 ?_
    exact aw_zret dX8_isUpTo_14 rfl (by first | omega | exact hb_b01 _) (by first | rfl | exact hb_oi1 (by omega) | exact hb_oi0 (by omega)) rfl rfl (by decide) (by decide)
  · skip
    refine aw_ild0 dX8_isUpTo_4 ?_
    refine aw_ild1 dX8_isUpTo_5 ?_
    refine aw_icmp_gt (tg := 13) dX8_isUpTo_6 (by decide) (by first | exact hG _ _ | (constructor <;> omega)) (by first | exact hG _ _ | (constructor <;> omega)) (fun c6 => ?_) (fun c6 => ?_)
    · skip
      refine aw_iconst dX8_isUpTo_13 ?_
      exact aw_zret dX8_isUpTo_14 rfl (by first | omega | exact hb_b01 _) (by first | rfl | exact hb_oi1 (by omega) | exact hb_oi0 (by omega)) rfl rfl (by decide) (by decide)
    · skip
      refine aw_iconst dX8_isUpTo_9 ?_
      refine aw_goto (tg := 14) dX8_isUpTo_10 (by decide) ?_
      exact aw_zret dX8_isUpTo_14 rfl (by first | omega | exact hb_b01 _) (by first | rfl | exact hb_oi1 (by omega) | exact hb_oi0 (by omega)) rfl rfl (by decide) (by decide)
set_option maxRecDepth 20000 in
set_option maxHeartbeats 1000000 in
theorem c_isInterval {l : Launch} {G : hb_G} {F : hb_F} {na : Nat} {v : Int} (hv : hb_in v) : hb_M l yX8_isInterval cX8_isInterval 1 (some .boolean) 1 0 0 [hb_i v] (hb_w G F na) (77 + na) (.inl (some (hb_i (hb_b (0 ≤ v ∧ v ≤ 100000))))) (hb_w G F na) (77 + na) := by
  refine hb_M_in rfl rfl (by decide) rfl (Nat.le_of_ble_eq_true rfl) ?_
  intro E z0 σ0
  refine aw_ild0 dX8_isInterval_0 ?_
  refine aw_ldc (z := 100000) dX8_isInterval_1 hbk_X8_115 ?_
  refine aw_S2v dX8_isInterval_3 (c_isUpTo (by first | assumption | omega | (constructor <;> omega) | exact hG _ _) (by first | assumption | omega | (constructor <;> omega) | exact hG _ _)) hbY_X8_isUpTo hbm_X8_83 hbs_X8_isUpTo (Nat.le_of_ble_eq_true rfl) ⟨by decide, by decide⟩ (by decide) (by decide) ?_
  exact aw_zret dX8_isInterval_6 rfl (by first | omega | exact hb_b01 _) (by first | rfl | exact congrArg (fun z => (Sum.inl (some (hb_i z)) : hb_O)) (hb_bc (by omega))) rfl rfl (by decide) (by decide)
set_option maxRecDepth 20000 in
set_option maxHeartbeats 1000000 in
theorem c_isDay {l : Launch} {G : hb_G} {F : hb_F} {na : Nat} {v : Int} (hv : hb_in v) : hb_M l yX8_isDay cX8_isDay 1 (some .boolean) 1 0 0 [hb_i v] (hb_w G F na) (77 + na) (.inl (some (hb_i (hb_b (0 ≤ v ∧ v ≤ 30000))))) (hb_w G F na) (77 + na) := by
  refine hb_M_in rfl rfl (by decide) rfl (Nat.le_of_ble_eq_true rfl) ?_
  intro E z0 σ0
  refine aw_ild0 dX8_isDay_0 ?_
  refine aw_sipush dX8_isDay_1 (by decide) ?_
  refine aw_S2v dX8_isDay_4 (c_isUpTo (by first | assumption | omega | (constructor <;> omega) | exact hG _ _) (by first | assumption | omega | (constructor <;> omega) | exact hG _ _)) hbY_X8_isUpTo hbm_X8_83 hbs_X8_isUpTo (Nat.le_of_ble_eq_true rfl) ⟨by decide, by decide⟩ (by decide) (by decide) ?_
  exact aw_zret dX8_isDay_7 rfl (by first | omega | exact hb_b01 _) (by first | rfl | exact congrArg (fun z => (Sum.inl (some (hb_i z)) : hb_O)) (hb_bc (by omega))) rfl rfl (by decide) (by decide)
set_option maxRecDepth 20000 in
set_option maxHeartbeats 1000000 in
theorem c_isPoint {l : Launch} {G : hb_G} {F : hb_F} {na : Nat} {v : Int} (hv : hb_in v) : hb_M l yX8_isPoint cX8_isPoint 1 (some .boolean) 1 0 0 [hb_i v] (hb_w G F na) (77 + na) (.inl (some (hb_i (hb_b (0 ≤ v ∧ v ≤ 3000099))))) (hb_w G F na) (77 + na) := by
  refine hb_M_in rfl rfl (by decide) rfl (Nat.le_of_ble_eq_true rfl) ?_
  intro E z0 σ0
  refine aw_ild0 dX8_isPoint_0 ?_
  refine aw_ldc (z := 3000099) dX8_isPoint_1 hbk_X8_253 ?_
  refine aw_S2v dX8_isPoint_3 (c_isUpTo (by first | assumption | omega | (constructor <;> omega) | exact hG _ _) (by first | assumption | omega | (constructor <;> omega) | exact hG _ _)) hbY_X8_isUpTo hbm_X8_83 hbs_X8_isUpTo (Nat.le_of_ble_eq_true rfl) ⟨by decide, by decide⟩ (by decide) (by decide) ?_
  exact aw_zret dX8_isPoint_6 rfl (by first | omega | exact hb_b01 _) (by first | rfl | exact congrArg (fun z => (Sum.inl (some (hb_i z)) : hb_O)) (hb_bc (by omega))) rfl rfl (by decide) (by decide)
set_option maxRecDepth 20000 in
set_option maxHeartbeats 1000000 in
theorem c_lastPointOf {l : Launch} {G : hb_G} {F : hb_F} {na : Nat} {v : Int} : hb_M l yX8_lastPointOf cX8_lastPointOf 1 (some .int) 0 0 0 [hb_i v] (hb_w G F na) (77 + na) (.inl (some (hb_i (v * 100 + 100 - 1)))) (hb_w G F na) (77 + na) := by
  refine hb_M_in rfl rfl (by decide) rfl (Nat.le_of_ble_eq_true rfl) ?_
  intro E z0 σ0
  refine aw_ild0 dX8_lastPointOf_0 ?_
  refine aw_bipush dX8_lastPointOf_1 (by decide) ?_
  refine aw_imul dX8_lastPointOf_3 ?_
  refine aw_bipush dX8_lastPointOf_4 (by decide) ?_
  refine aw_iadd dX8_lastPointOf_6 ?_
  refine aw_iconst dX8_lastPointOf_7 ?_
  refine aw_isub dX8_lastPointOf_8 ?_
  exact aw_iret dX8_lastPointOf_9 rfl (by first | rfl | exact hb_oi1 (by omega) | exact hb_oi0 (by omega)) rfl rfl (by decide) (by decide)
set_option maxRecDepth 20000 in
set_option maxHeartbeats 1000000 in
theorem c_thingsHas {l : Launch} {G : hb_G} {F : hb_F} {na : Nat} {t : Int} (ht : hb_in t) (hG : hb_rg G) : hb_M l yX6_has cX6_has 2 (some .boolean) 1 0 0 [hb_r 6, hb_i t] (hb_w G F na) (77 + na) (.inl (some (hb_i (hb_b (0 ≤ t ∧ t < 40 ∧ G 7 t ≠ -1))))) (hb_w G F na) (77 + na) := by
  refine hb_M_in rfl rfl (by decide) rfl (Nat.le_of_ble_eq_true rfl) ?_
  intro E z0 σ0
  refine aw_ild1 dX6_has_0 ?_
  refine aw_bipush dX6_has_1 (by decide) ?_
  refine aw_N2v (host := RX8) dX6_has_3 (c_isBelow (by first | assumption | omega | (constructor <;> omega) | exact hG _ _) (by first | assumption | omega | (constructor <;> omega) | exact hG _ _)) hbY_X8_isBelow (fun U h9 => h9.2.2.2.2.2.1) hbs_X8_isBelow (Nat.le_of_ble_eq_true rfl) ⟨by decide, by decide⟩ (by decide) (by decide) ?_
  refine aw_ifb_eq (tg := 23) dX6_has_6 (by decide) (fun c6 => ?_) (fun c6 => ?_)
  · skip
    refine aw_iconst dX6_has_23 ?_
    exact aw_zret dX6_has_24 rfl (by first | omega | exact hb_b01 _) (by first | rfl | exact hb_oi1 (by omega) | exact hb_oi0 (by omega)) rfl rfl (by decide) (by decide)
  · skip
    refine aw_ald0 dX6_has_9 ?_
    refine aw_getf dX6_has_10 hbf_X6_9 rfl rfl ?_
    refine aw_ild1 dX6_has_13 ?_
    refine aw_iald dX6_has_14 rfl (by constructor <;> omega) (by decide) ?_
    refine aw_iconst dX6_has_15 ?_
    refine aw_icmp_eq (tg := 23) dX6_has_16 (by decide) (by first | exact hG _ _ | (constructor <;> omega)) (by first | exact hG _ _ | (constructor <;> omega)) (fun c16 => ?_) (fun c16 => ?_)
    · skip
      refine aw_iconst dX6_has_23 ?_
      exact aw_zret dX6_has_24 rfl (by first | omega | exact hb_b01 _) (by first | rfl | exact hb_oi1 (by omega) | exact hb_oi0 (by omega)) rfl rfl (by decide) (by decide)
    · skip
      refine aw_iconst dX6_has_19 ?_
      refine aw_goto (tg := 24) dX6_has_20 (by decide) ?_
      exact aw_zret dX6_has_24 rfl (by first | omega | exact hb_b01 _) (by first | rfl | exact hb_oi1 (by omega) | exact hb_oi0 (by omega)) rfl rfl (by decide) (by decide)
set_option maxRecDepth 20000 in
set_option maxHeartbeats 1000000 in
theorem c_tasksHas {l : Launch} {G : hb_G} {F : hb_F} {na : Nat} {t : Int} (ht : hb_in t) (hG : hb_rg G) : hb_M l yX5_has cX5_has 2 (some .boolean) 1 0 0 [hb_r 12, hb_i t] (hb_w G F na) (77 + na) (.inl (some (hb_i (hb_b (0 ≤ t ∧ t < 16 ∧ G 13 t ≠ -1))))) (hb_w G F na) (77 + na) := by
  refine hb_M_in rfl rfl (by decide) rfl (Nat.le_of_ble_eq_true rfl) ?_
  intro E z0 σ0
  refine aw_ild1 dX5_has_0 ?_
  refine aw_bipush dX5_has_1 (by decide) ?_
  refine aw_N2v (host := RX8) dX5_has_3 (c_isBelow (by first | assumption | omega | (constructor <;> omega) | exact hG _ _) (by first | assumption | omega | (constructor <;> omega) | exact hG _ _)) hbY_X8_isBelow (fun U h9 => h9.2.2.2.2.2.2.1) hbs_X8_isBelow (Nat.le_of_ble_eq_true rfl) ⟨by decide, by decide⟩ (by decide) (by decide) ?_
  refine aw_ifb_eq (tg := 23) dX5_has_6 (by decide) (fun c6 => ?_) (fun c6 => ?_)
  · skip
    refine aw_iconst dX5_has_23 ?_
    exact aw_zret dX5_has_24 rfl (by first | omega | exact hb_b01 _) (by first | rfl | exact hb_oi1 (by omega) | exact hb_oi0 (by omega)) rfl rfl (by decide) (by decide)
  · skip
    refine aw_ald0 dX5_has_9 ?_
    refine aw_getf dX5_has_10 hbf_X5_9 rfl rfl ?_
    refine aw_ild1 dX5_has_13 ?_
    refine aw_iald dX5_has_14 rfl (by constructor <;> omega) (by decide) ?_
    refine aw_iconst dX5_has_15 ?_
    refine aw_icmp_eq (tg := 23) dX5_has_16 (by decide) (by first | exact hG _ _ | (constructor <;> omega)) (by first | exact hG _ _ | (constructor <;> omega)) (fun c16 => ?_) (fun c16 => ?_)
    · skip
      refine aw_iconst dX5_has_23 ?_
      exact aw_zret dX5_has_24 rfl (by first | omega | exact hb_b01 _) (by first | rfl | exact hb_oi1 (by omega) | exact hb_oi0 (by omega)) rfl rfl (by decide) (by decide)
    · skip
      refine aw_iconst dX5_has_19 ?_
      refine aw_goto (tg := 24) dX5_has_20 (by decide) ?_
      exact aw_zret dX5_has_24 rfl (by first | omega | exact hb_b01 _) (by first | rfl | exact hb_oi1 (by omega) | exact hb_oi0 (by omega)) rfl rfl (by decide) (by decide)
set_option maxRecDepth 20000 in
set_option maxHeartbeats 1000000 in
theorem c_ordersHas {l : Launch} {G : hb_G} {F : hb_F} {na : Nat} {t : Int} (ht : hb_in t) (hG : hb_rg G) : hb_M l yX3_has cX3_has 2 (some .boolean) 1 0 0 [hb_r 19, hb_i t] (hb_w G F na) (77 + na) (.inl (some (hb_i (hb_b (0 ≤ t ∧ t < 8 ∧ G 20 t ≠ -1))))) (hb_w G F na) (77 + na) := by
  refine hb_M_in rfl rfl (by decide) rfl (Nat.le_of_ble_eq_true rfl) ?_
  intro E z0 σ0
  refine aw_ild1 dX3_has_0 ?_
  refine aw_bipush dX3_has_1 (by decide) ?_
  refine aw_N2v (host := RX8) dX3_has_3 (c_isBelow (by first | assumption | omega | (constructor <;> omega) | exact hG _ _) (by first | assumption | omega | (constructor <;> omega) | exact hG _ _)) hbY_X8_isBelow (fun U h9 => h9.2.2.2.2.2.2.2.1) hbs_X8_isBelow (Nat.le_of_ble_eq_true rfl) ⟨by decide, by decide⟩ (by decide) (by decide) ?_
  refine aw_ifb_eq (tg := 23) dX3_has_6 (by decide) (fun c6 => ?_) (fun c6 => ?_)
  · skip
    refine aw_iconst dX3_has_23 ?_
    exact aw_zret dX3_has_24 rfl (by first | omega | exact hb_b01 _) (by first | rfl | exact hb_oi1 (by omega) | exact hb_oi0 (by omega)) rfl rfl (by decide) (by decide)
  · skip
    refine aw_ald0 dX3_has_9 ?_
    refine aw_getf dX3_has_10 hbf_X3_9 rfl rfl ?_
    refine aw_ild1 dX3_has_13 ?_
    refine aw_iald dX3_has_14 rfl (by constructor <;> omega) (by decide) ?_
    refine aw_iconst dX3_has_15 ?_
    refine aw_icmp_eq (tg := 23) dX3_has_16 (by decide) (by first | exact hG _ _ | (constructor <;> omega)) (by first | exact hG _ _ | (constructor <;> omega)) (fun c16 => ?_) (fun c16 => ?_)
    · skip
      refine aw_iconst dX3_has_23 ?_
      exact aw_zret dX3_has_24 rfl (by first | omega | exact hb_b01 _) (by first | rfl | exact hb_oi1 (by omega) | exact hb_oi0 (by omega)) rfl rfl (by decide) (by decide)
    · skip
      refine aw_iconst dX3_has_19 ?_
      refine aw_goto (tg := 24) dX3_has_20 (by decide) ?_
      exact aw_zret dX3_has_24 rfl (by first | omega | exact hb_b01 _) (by first | rfl | exact hb_oi1 (by omega) | exact hb_oi0 (by omega)) rfl rfl (by decide) (by decide)
set_option maxRecDepth 20000 in
set_option maxHeartbeats 1000000 in
theorem c_hangsSomewhere {l : Launch} {G : hb_G} {F : hb_F} {na : Nat} {kind : Int} (hk : hb_in kind) (hG : hb_rg G) : hb_M l yX2_hangsSomewhere cX2_hangsSomewhere 3 (some .boolean) 0 0 0 [hb_r 1, hb_i kind] (hb_w G F na) (77 + na) (.inl (some (hb_i (hb_b (∃ i, 0 ≤ i ∧ i < 48 ∧ G 2 i = kind))))) (hb_w G F na) (77 + na) := by
  refine hb_M_in rfl rfl (by decide) rfl (Nat.le_of_ble_eq_true rfl) ?_
  intro E z0 σ0
  have key : ∀ (n : Nat) (i : Int), 0 ≤ i → i ≤ 48 → 48 - i < n → (∀ j, 0 ≤ j → j < i → G 2 j ≠ kind) → hb_W l RX2 cX2_hangsSomewhere 3 (some .boolean) "hangsSomewhere" [] E z0 (hb_rm 0 0 0) σ0 (77 + na) (.inl (some (hb_i (hb_b (∃ i, 0 ≤ i ∧ i < 48 ∧ G 2 i = kind))))) (hb_w G F na) (77 + na) 0 0 2 [hb_r 1, hb_i kind, hb_i i] [] (hb_w G F na) (77 + na) := by
    intro n
    induction n with
    | zero => intro i h1 h2 h3; omega
    | succ n ih =>
      intro i h1 h2 h3 hno
      refine aw_ild2 dX2_hangsSomewhere_2 ?_
      refine aw_ald0 dX2_hangsSomewhere_3 ?_
      refine aw_getf dX2_hangsSomewhere_4 hbf_X2_9 rfl rfl ?_
      refine aw_alen dX2_hangsSomewhere_7 rfl (by decide) ?_
      refine aw_icmp_ge (tg := 29) dX2_hangsSomewhere_8 (by decide) (by first | exact hG _ _ | (constructor <;> omega)) (by first | exact hG _ _ | (constructor <;> omega)) (fun c8 => ?_) (fun c8 => ?_)
      · skip
        refine aw_iconst dX2_hangsSomewhere_29 ?_
        exact aw_zret dX2_hangsSomewhere_30 rfl (by first | omega | exact hb_b01 _) (by first | exact hb_oi1 ⟨i, by omega, by omega, by omega⟩ | exact hb_oi0 (fun ⟨j, j1, j2, j3⟩ => hno j j1 (by omega) j3)) rfl rfl (by decide) (by decide)
      · skip
        refine aw_ald0 dX2_hangsSomewhere_11 ?_
        refine aw_getf dX2_hangsSomewhere_12 hbf_X2_9 rfl rfl ?_
        refine aw_ild2 dX2_hangsSomewhere_15 ?_
        refine aw_iald dX2_hangsSomewhere_16 rfl (by constructor <;> omega) (by decide) ?_
        refine aw_ild1 dX2_hangsSomewhere_17 ?_
        refine aw_icmp_ne (tg := 23) dX2_hangsSomewhere_18 (by decide) (by first | exact hG _ _ | (constructor <;> omega)) (by first | exact hG _ _ | (constructor <;> omega)) (fun c18 => ?_) (fun c18 => ?_)
        · skip
          refine aw_iinc2 dX2_hangsSomewhere_23 (by decide) ?_
          refine aw_goto (tg := 2) dX2_hangsSomewhere_26 (by decide) ?_
          exact ih (i + 1) (by omega) (by omega) (by omega) (fun j j1 j2 => by rcases (show j < i ∨ j = i by omega) with h9 | h9; exact hno j j1 h9; rw [h9]; assumption)
        · skip
          refine aw_iconst dX2_hangsSomewhere_21 ?_
          exact aw_zret dX2_hangsSomewhere_22 rfl (by first | omega | exact hb_b01 _) (by first | exact hb_oi1 ⟨i, by omega, by omega, by omega⟩ | exact hb_oi0 (fun ⟨j, j1, j2, j3⟩ => hno j j1 (by omega) j3)) rfl rfl (by decide) (by decide)
  refine aw_iconst dX2_hangsSomewhere_0 ?_
  refine aw_ipu2 dX2_hangsSomewhere_1 (by decide) ?_
  exact key 49 0 (by omega) (by omega) (by omega) (fun j j1 j2 => by omega)
set_option maxRecDepth 20000 in
set_option maxHeartbeats 1000000 in
theorem c_isMachine {l : Launch} {G : hb_G} {F : hb_F} {na : Nat} {t : Int} (ht : hb_in t) (hG : hb_rg G) : hb_M l yX6_isMachine cX6_isMachine 2 (some .boolean) 2 0 0 [hb_r 6, hb_i t] (hb_w G F na) (77 + na) (.inl (some (hb_i (hb_b ((0 ≤ t ∧ t < 40 ∧ G 7 t ≠ -1) ∧ ¬ ∃ i, 0 ≤ i ∧ i < 48 ∧ G 2 i = G 7 t))))) (hb_w G F na) (77 + na) := by
  refine hb_M_in rfl rfl (by decide) rfl (Nat.le_of_ble_eq_true rfl) ?_
  intro E z0 σ0
  refine aw_ald0 dX6_isMachine_0 ?_
  refine aw_ild1 dX6_isMachine_1 ?_
  refine aw_V1v dX6_isMachine_2 (c_thingsHas (by first | assumption | omega | (constructor <;> omega) | exact hG _ _) hG) rfl rfl hbY_X6_has hbm_X6_37 hbi_X6_has hbe_X6_X6_has (Nat.le_of_ble_eq_true rfl) ⟨by decide, by decide⟩ (by decide) (by decide) ?_
  refine aw_ifb_eq (tg := 28) dX6_isMachine_5 (by decide) (fun c5 => ?_) (fun c5 => ?_)
  · skip
    refine aw_iconst dX6_isMachine_28 ?_
    exact aw_zret dX6_isMachine_29 rfl (by first | omega | exact hb_b01 _) (by first | exact hb_oi1 ⟨by omega, by assumption⟩ | exact hb_oi0 (fun h9 => absurd h9.1 (by assumption)) | exact hb_oi0 (fun h9 => h9.2 (by assumption))) rfl rfl (by decide) (by decide)
  · skip
    refine aw_ald0 dX6_isMachine_8 ?_
    refine aw_getf dX6_isMachine_9 hbf_X6_23 rfl rfl ?_
    refine aw_ald0 dX6_isMachine_12 ?_
    refine aw_getf dX6_isMachine_13 hbf_X6_9 rfl rfl ?_
    refine aw_ild1 dX6_isMachine_16 ?_
    refine aw_iald dX6_isMachine_17 rfl (by constructor <;> omega) (by decide) ?_
    refine aw_V1v dX6_isMachine_18 (c_hangsSomewhere (by first | assumption | omega | (constructor <;> omega) | exact hG _ _) hG) rfl rfl hbY_X2_hangsSomewhere hbm_X6_41 hbi_X2_hangsSomewhere hbe_X2_X2_hangsSomewhere (Nat.le_of_ble_eq_true rfl) ⟨by decide, by decide⟩ (by decide) (by decide) ?_
    refine aw_ifb_ne (tg := 28) dX6_isMachine_21 (by decide) (fun c21 => ?_) (fun c21 => ?_)
    · skip
      refine aw_iconst dX6_isMachine_28 ?_
      exact aw_zret dX6_isMachine_29 rfl (by first | omega | exact hb_b01 _) (by first | exact hb_oi1 ⟨by omega, by assumption⟩ | exact hb_oi0 (fun h9 => absurd h9.1 (by assumption)) | exact hb_oi0 (fun h9 => h9.2 (by assumption))) rfl rfl (by decide) (by decide)
    · skip
      refine aw_iconst dX6_isMachine_24 ?_
      refine aw_goto (tg := 29) dX6_isMachine_25 (by decide) ?_
      exact aw_zret dX6_isMachine_29 rfl (by first | omega | exact hb_b01 _) (by first | exact hb_oi1 ⟨by omega, by assumption⟩ | exact hb_oi0 (fun h9 => absurd h9.1 (by assumption)) | exact hb_oi0 (fun h9 => h9.2 (by assumption))) rfl rfl (by decide) (by decide)
